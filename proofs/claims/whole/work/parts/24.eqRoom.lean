theorem dX11_mast_0 : decode cX11_mast 0 = .ok (.iload_n 1, 1) := by decide +kernel
theorem dX11_mast_1 : decode cX11_mast 1 = .ok (.invokestatic 84, 3) := by decide +kernel
theorem dX11_mast_4 : decode cX11_mast 4 = .ok (.ifCond .eq 13, 3) := by decide +kernel
theorem dX11_mast_18 : decode cX11_mast 18 = .ok (.iconst 1, 1) := by decide +kernel
theorem dX11_mast_17 : decode cX11_mast 17 = .ok (.aload_n 0, 1) := by decide +kernel
theorem dX11_mast_19 : decode cX11_mast 19 = .ok (.invokevirtual 94, 3) := by decide +kernel
theorem dX11_mast_9 : decode cX11_mast 9 = .ok (.bipush 15, 2) := by decide +kernel
theorem dX11_mast_8 : decode cX11_mast 8 = .ok (.iconst 1, 1) := by decide +kernel
theorem dX11_mast_7 : decode cX11_mast 7 = .ok (.iload_n 2, 1) := by decide +kernel
theorem dX11_mast_11 : decode cX11_mast 11 = .ok (.invokestatic 90, 3) := by decide +kernel
theorem dX11_mast_22 : decode cX11_mast 22 = .ok (.ireturn, 1) := by decide +kernel
theorem dX11_mast_14 : decode cX11_mast 14 = .ok (.ifCond .ne 9, 3) := by decide +kernel
theorem dX11_mast_23 : decode cX11_mast 23 = .ok (.aload_n 0, 1) := by decide +kernel
theorem dX11_mast_24 : decode cX11_mast 24 = .ok (.getfield 10, 3) := by decide +kernel
theorem dX11_mast_27 : decode cX11_mast 27 = .ok (.getfield 98, 3) := by decide +kernel
theorem dX11_mast_30 : decode cX11_mast 30 = .ok (.iload_n 1, 1) := by decide +kernel
theorem dX11_mast_31 : decode cX11_mast 31 = .ok (.invokevirtual 101, 3) := by decide +kernel
theorem dX11_mast_36 : decode cX11_mast 36 = .ok (.ifCond .ge 9, 3) := by decide +kernel
theorem dX11_mast_35 : decode cX11_mast 35 = .ok (.iload_n 3, 1) := by decide +kernel
theorem dX11_mast_34 : decode cX11_mast 34 = .ok (.istore_n 3, 1) := by decide +kernel
theorem dX11_mast_45 : decode cX11_mast 45 = .ok (.aload_n 0, 1) := by decide +kernel
theorem dX11_mast_46 : decode cX11_mast 46 = .ok (.getfield 10, 3) := by decide +kernel
theorem dX11_mast_49 : decode cX11_mast 49 = .ok (.getfield 98, 3) := by decide +kernel
theorem dX11_mast_54 : decode cX11_mast 54 = .ok (.iload_n 2, 1) := by decide +kernel
theorem dX11_mast_53 : decode cX11_mast 53 = .ok (.iconst 1, 1) := by decide +kernel
theorem dX11_mast_52 : decode cX11_mast 52 = .ok (.iload_n 3, 1) := by decide +kernel
theorem dX11_mast_55 : decode cX11_mast 55 = .ok (.invokevirtual 106, 3) := by decide +kernel
theorem dX11_mast_40 : decode cX11_mast 40 = .ok (.iconst 4, 1) := by decide +kernel
theorem dX11_mast_39 : decode cX11_mast 39 = .ok (.aload_n 0, 1) := by decide +kernel
theorem dX11_mast_41 : decode cX11_mast 41 = .ok (.invokevirtual 94, 3) := by decide +kernel
theorem dX11_mast_58 : decode cX11_mast 58 = .ok (.iload_n 3, 1) := by decide +kernel
theorem dX11_mast_59 : decode cX11_mast 59 = .ok (.ireturn, 1) := by decide +kernel
theorem dX11_mast_44 : decode cX11_mast 44 = .ok (.ireturn, 1) := by decide +kernel
theorem dX11_jam_0 : decode cX11_jam 0 = .ok (.aload_n 0, 1) := by decide +kernel
theorem dX11_jam_1 : decode cX11_jam 1 = .ok (.getfield 10, 3) := by decide +kernel
theorem dX11_jam_4 : decode cX11_jam 4 = .ok (.getfield 98, 3) := by decide +kernel
theorem dX11_jam_7 : decode cX11_jam 7 = .ok (.iload_n 1, 1) := by decide +kernel
theorem dX11_jam_8 : decode cX11_jam 8 = .ok (.invokevirtual 110, 3) := by decide +kernel
theorem dX11_jam_11 : decode cX11_jam 11 = .ok (.ifCond .eq 19, 3) := by decide +kernel
theorem dX11_jam_31 : decode cX11_jam 31 = .ok (.iconst 1, 1) := by decide +kernel
theorem dX11_jam_30 : decode cX11_jam 30 = .ok (.aload_n 0, 1) := by decide +kernel
theorem dX11_jam_32 : decode cX11_jam 32 = .ok (.invokevirtual 94, 3) := by decide +kernel
theorem dX11_jam_14 : decode cX11_jam 14 = .ok (.aload_n 0, 1) := by decide +kernel
theorem dX11_jam_15 : decode cX11_jam 15 = .ok (.getfield 10, 3) := by decide +kernel
theorem dX11_jam_18 : decode cX11_jam 18 = .ok (.getfield 98, 3) := by decide +kernel
theorem dX11_jam_23 : decode cX11_jam 23 = .ok (.iload_n 2, 1) := by decide +kernel
theorem dX11_jam_22 : decode cX11_jam 22 = .ok (.iconst 2, 1) := by decide +kernel
theorem dX11_jam_21 : decode cX11_jam 21 = .ok (.iload_n 1, 1) := by decide +kernel
theorem dX11_jam_24 : decode cX11_jam 24 = .ok (.invokestatic 113, 3) := by decide +kernel
theorem dX11_jam_35 : decode cX11_jam 35 = .ok (.ireturn, 1) := by decide +kernel
theorem dX11_jam_27 : decode cX11_jam 27 = .ok (.goto 8, 3) := by decide +kernel
theorem dX11_post_0 : decode cX11_post 0 = .ok (.iload_n 1, 1) := by decide +kernel
theorem dX11_post_1 : decode cX11_post 1 = .ok (.invokestatic 84, 3) := by decide +kernel
theorem dX11_post_4 : decode cX11_post 4 = .ok (.ifCond .eq 13, 3) := by decide +kernel
theorem dX11_post_18 : decode cX11_post 18 = .ok (.iconst 1, 1) := by decide +kernel
theorem dX11_post_17 : decode cX11_post 17 = .ok (.aload_n 0, 1) := by decide +kernel
theorem dX11_post_19 : decode cX11_post 19 = .ok (.invokevirtual 94, 3) := by decide +kernel
theorem dX11_post_9 : decode cX11_post 9 = .ok (.bipush 15, 2) := by decide +kernel
theorem dX11_post_8 : decode cX11_post 8 = .ok (.iconst 0, 1) := by decide +kernel
theorem dX11_post_7 : decode cX11_post 7 = .ok (.iload_n 2, 1) := by decide +kernel
theorem dX11_post_11 : decode cX11_post 11 = .ok (.invokestatic 90, 3) := by decide +kernel
theorem dX11_post_22 : decode cX11_post 22 = .ok (.ireturn, 1) := by decide +kernel
theorem dX11_post_14 : decode cX11_post 14 = .ok (.ifCond .ne 9, 3) := by decide +kernel
theorem dX11_post_23 : decode cX11_post 23 = .ok (.aload_n 0, 1) := by decide +kernel
theorem dX11_post_24 : decode cX11_post 24 = .ok (.getfield 10, 3) := by decide +kernel
theorem dX11_post_27 : decode cX11_post 27 = .ok (.getfield 117, 3) := by decide +kernel
theorem dX11_post_30 : decode cX11_post 30 = .ok (.iload_n 1, 1) := by decide +kernel
theorem dX11_post_31 : decode cX11_post 31 = .ok (.invokevirtual 101, 3) := by decide +kernel
theorem dX11_post_36 : decode cX11_post 36 = .ok (.ifCond .ge 9, 3) := by decide +kernel
theorem dX11_post_35 : decode cX11_post 35 = .ok (.iload_n 3, 1) := by decide +kernel
theorem dX11_post_34 : decode cX11_post 34 = .ok (.istore_n 3, 1) := by decide +kernel
theorem dX11_post_45 : decode cX11_post 45 = .ok (.aload_n 0, 1) := by decide +kernel
theorem dX11_post_46 : decode cX11_post 46 = .ok (.getfield 10, 3) := by decide +kernel
theorem dX11_post_49 : decode cX11_post 49 = .ok (.getfield 117, 3) := by decide +kernel
theorem dX11_post_54 : decode cX11_post 54 = .ok (.iload_n 2, 1) := by decide +kernel
theorem dX11_post_53 : decode cX11_post 53 = .ok (.iconst 1, 1) := by decide +kernel
theorem dX11_post_52 : decode cX11_post 52 = .ok (.iload_n 3, 1) := by decide +kernel
theorem dX11_post_55 : decode cX11_post 55 = .ok (.invokevirtual 106, 3) := by decide +kernel
theorem dX11_post_40 : decode cX11_post 40 = .ok (.iconst 4, 1) := by decide +kernel
theorem dX11_post_39 : decode cX11_post 39 = .ok (.aload_n 0, 1) := by decide +kernel
theorem dX11_post_41 : decode cX11_post 41 = .ok (.invokevirtual 94, 3) := by decide +kernel
theorem dX11_post_58 : decode cX11_post 58 = .ok (.iload_n 3, 1) := by decide +kernel
theorem dX11_post_59 : decode cX11_post 59 = .ok (.ireturn, 1) := by decide +kernel
theorem dX11_post_44 : decode cX11_post 44 = .ok (.ireturn, 1) := by decide +kernel
theorem dX11_set_1 : decode cX11_set 1 = .ok (.ifCond .ne 31, 3) := by decide +kernel
theorem dX11_set_0 : decode cX11_set 0 = .ok (.iload_n 1, 1) := by decide +kernel
theorem dX11_set_6 : decode cX11_set 6 = .ok (.bipush 9, 2) := by decide +kernel
theorem dX11_set_5 : decode cX11_set 5 = .ok (.iconst 0, 1) := by decide +kernel
theorem dX11_set_4 : decode cX11_set 4 = .ok (.iload_n 2, 1) := by decide +kernel
theorem dX11_set_8 : decode cX11_set 8 = .ok (.invokestatic 90, 3) := by decide +kernel
theorem dX11_set_34 : decode cX11_set 34 = .ok (.if_icmp .ne 31, 3) := by decide +kernel
theorem dX11_set_33 : decode cX11_set 33 = .ok (.iconst 1, 1) := by decide +kernel
theorem dX11_set_32 : decode cX11_set 32 = .ok (.iload_n 1, 1) := by decide +kernel
theorem dX11_set_39 : decode cX11_set 39 = .ok (.bipush 9, 2) := by decide +kernel
theorem dX11_set_38 : decode cX11_set 38 = .ok (.iconst 1, 1) := by decide +kernel
theorem dX11_set_37 : decode cX11_set 37 = .ok (.iload_n 2, 1) := by decide +kernel
theorem dX11_set_41 : decode cX11_set 41 = .ok (.invokestatic 90, 3) := by decide +kernel
theorem dX11_set_66 : decode cX11_set 66 = .ok (.iconst 1, 1) := by decide +kernel
theorem dX11_set_65 : decode cX11_set 65 = .ok (.aload_n 0, 1) := by decide +kernel
theorem dX11_set_67 : decode cX11_set 67 = .ok (.invokevirtual 94, 3) := by decide +kernel
theorem dX11_set_11 : decode cX11_set 11 = .ok (.ifCond .eq 21, 3) := by decide +kernel
theorem dX11_set_14 : decode cX11_set 14 = .ok (.aload_n 0, 1) := by decide +kernel
theorem dX11_set_15 : decode cX11_set 15 = .ok (.getfield 10, 3) := by decide +kernel
theorem dX11_set_18 : decode cX11_set 18 = .ok (.getfield 120, 3) := by decide +kernel
theorem dX11_set_22 : decode cX11_set 22 = .ok (.aload_n 0, 1) := by decide +kernel
theorem dX11_set_21 : decode cX11_set 21 = .ok (.istore_n 3, 1) := by decide +kernel
theorem dX11_set_23 : decode cX11_set 23 = .ok (.getfield 10, 3) := by decide +kernel
theorem dX11_set_26 : decode cX11_set 26 = .ok (.iload_n 2, 1) := by decide +kernel
theorem dX11_set_27 : decode cX11_set 27 = .ok (.putfield 120, 3) := by decide +kernel
theorem dX11_set_30 : decode cX11_set 30 = .ok (.iload_n 3, 1) := by decide +kernel
theorem dX11_set_31 : decode cX11_set 31 = .ok (.ireturn, 1) := by decide +kernel
theorem dX11_set_44 : decode cX11_set 44 = .ok (.ifCond .eq 21, 3) := by decide +kernel
theorem dX11_set_47 : decode cX11_set 47 = .ok (.aload_n 0, 1) := by decide +kernel
theorem dX11_set_48 : decode cX11_set 48 = .ok (.getfield 10, 3) := by decide +kernel
theorem dX11_set_51 : decode cX11_set 51 = .ok (.getfield 123, 3) := by decide +kernel
theorem dX11_set_55 : decode cX11_set 55 = .ok (.aload_n 0, 1) := by decide +kernel
theorem dX11_set_54 : decode cX11_set 54 = .ok (.istore_n 3, 1) := by decide +kernel
theorem dX11_set_56 : decode cX11_set 56 = .ok (.getfield 10, 3) := by decide +kernel
theorem dX11_set_59 : decode cX11_set 59 = .ok (.iload_n 2, 1) := by decide +kernel
theorem dX11_set_60 : decode cX11_set 60 = .ok (.putfield 123, 3) := by decide +kernel
theorem dX11_set_63 : decode cX11_set 63 = .ok (.iload_n 3, 1) := by decide +kernel
theorem dX11_set_64 : decode cX11_set 64 = .ok (.ireturn, 1) := by decide +kernel
theorem dX11_set_70 : decode cX11_set 70 = .ok (.ireturn, 1) := by decide +kernel
theorem dX11_watched_0 : decode cX11_watched 0 = .ok (.iload_n 1, 1) := by decide +kernel
theorem dX11_watched_1 : decode cX11_watched 1 = .ok (.invokestatic 84, 3) := by decide +kernel
theorem dX11_watched_4 : decode cX11_watched 4 = .ok (.ifCond .ne 9, 3) := by decide +kernel
theorem dX11_watched_8 : decode cX11_watched 8 = .ok (.iconst 1, 1) := by decide +kernel
theorem dX11_watched_7 : decode cX11_watched 7 = .ok (.aload_n 0, 1) := by decide +kernel
theorem dX11_watched_9 : decode cX11_watched 9 = .ok (.invokevirtual 94, 3) := by decide +kernel
theorem dX11_watched_13 : decode cX11_watched 13 = .ok (.aload_n 0, 1) := by decide +kernel
theorem dX11_watched_14 : decode cX11_watched 14 = .ok (.getfield 10, 3) := by decide +kernel
theorem dX11_watched_17 : decode cX11_watched 17 = .ok (.iload_n 1, 1) := by decide +kernel
theorem dX11_watched_18 : decode cX11_watched 18 = .ok (.invokevirtual 126, 3) := by decide +kernel
theorem dX11_watched_12 : decode cX11_watched 12 = .ok (.ireturn, 1) := by decide +kernel
theorem dX11_watched_21 : decode cX11_watched 21 = .ok (.ifCond .eq 7, 3) := by decide +kernel
theorem dX11_watched_29 : decode cX11_watched 29 = .ok (.aload_n 0, 1) := by decide +kernel
theorem dX11_watched_28 : decode cX11_watched 28 = .ok (.iconst 0, 1) := by decide +kernel
theorem dX11_watched_30 : decode cX11_watched 30 = .ok (.getfield 10, 3) := by decide +kernel
theorem dX11_watched_33 : decode cX11_watched 33 = .ok (.iload_n 1, 1) := by decide +kernel
theorem dX11_watched_34 : decode cX11_watched 34 = .ok (.invokevirtual 129, 3) := by decide +kernel
theorem dX11_watched_25 : decode cX11_watched 25 = .ok (.goto 4, 3) := by decide +kernel
theorem dX11_watched_24 : decode cX11_watched 24 = .ok (.iconst 1, 1) := by decide +kernel
theorem dX11_watched_37 : decode cX11_watched 37 = .ok (.ifCond .eq 7, 3) := by decide +kernel
theorem dX11_watched_45 : decode cX11_watched 45 = .ok (.iadd, 1) := by decide +kernel
theorem dX11_watched_44 : decode cX11_watched 44 = .ok (.iconst 0, 1) := by decide +kernel
theorem dX11_watched_46 : decode cX11_watched 46 = .ok (.ireturn, 1) := by decide +kernel
theorem dX11_watched_41 : decode cX11_watched 41 = .ok (.goto 4, 3) := by decide +kernel
theorem dX11_watched_40 : decode cX11_watched 40 = .ok (.iconst 2, 1) := by decide +kernel
theorem dX11_field_0 : decode cX11_field 0 = .ok (.iload_n 1, 1) := by decide +kernel
theorem dX11_field_1 : decode cX11_field 1 = .ok (.invokestatic 84, 3) := by decide +kernel
theorem dX11_field_4 : decode cX11_field 4 = .ok (.ifCond .ne 9, 3) := by decide +kernel
theorem dX11_field_8 : decode cX11_field 8 = .ok (.iconst 1, 1) := by decide +kernel
theorem dX11_field_7 : decode cX11_field 7 = .ok (.aload_n 0, 1) := by decide +kernel
theorem dX11_field_9 : decode cX11_field 9 = .ok (.invokevirtual 94, 3) := by decide +kernel
theorem dX11_field_14 : decode cX11_field 14 = .ok (.aload_n 0, 1) := by decide +kernel
theorem dX11_field_13 : decode cX11_field 13 = .ok (.aload_n 0, 1) := by decide +kernel
theorem dX11_field_15 : decode cX11_field 15 = .ok (.getfield 10, 3) := by decide +kernel
theorem dX11_field_18 : decode cX11_field 18 = .ok (.getfield 132, 3) := by decide +kernel
theorem dX11_field_21 : decode cX11_field 21 = .ok (.iload_n 1, 1) := by decide +kernel
theorem dX11_field_22 : decode cX11_field 22 = .ok (.invokevirtual 101, 3) := by decide +kernel
theorem dX11_field_12 : decode cX11_field 12 = .ok (.ireturn, 1) := by decide +kernel
theorem dX11_field_25 : decode cX11_field 25 = .ok (.invokevirtual 135, 3) := by decide +kernel
theorem dX11_field_28 : decode cX11_field 28 = .ok (.ireturn, 1) := by decide +kernel
theorem dX11_town_0 : decode cX11_town 0 = .ok (.iload_n 1, 1) := by decide +kernel
theorem dX11_town_1 : decode cX11_town 1 = .ok (.invokestatic 84, 3) := by decide +kernel
theorem dX11_town_4 : decode cX11_town 4 = .ok (.ifCond .ne 9, 3) := by decide +kernel
theorem dX11_town_8 : decode cX11_town 8 = .ok (.iconst 1, 1) := by decide +kernel
theorem dX11_town_7 : decode cX11_town 7 = .ok (.aload_n 0, 1) := by decide +kernel
theorem dX11_town_9 : decode cX11_town 9 = .ok (.invokevirtual 94, 3) := by decide +kernel
theorem dX11_town_14 : decode cX11_town 14 = .ok (.aload_n 0, 1) := by decide +kernel
theorem dX11_town_13 : decode cX11_town 13 = .ok (.aload_n 0, 1) := by decide +kernel
theorem dX11_town_15 : decode cX11_town 15 = .ok (.getfield 10, 3) := by decide +kernel
theorem dX11_town_18 : decode cX11_town 18 = .ok (.getfield 138, 3) := by decide +kernel
theorem dX11_town_21 : decode cX11_town 21 = .ok (.iload_n 1, 1) := by decide +kernel
theorem dX11_town_22 : decode cX11_town 22 = .ok (.invokevirtual 101, 3) := by decide +kernel
theorem dX11_town_12 : decode cX11_town 12 = .ok (.ireturn, 1) := by decide +kernel
theorem dX11_town_25 : decode cX11_town 25 = .ok (.invokevirtual 135, 3) := by decide +kernel
theorem dX11_town_28 : decode cX11_town 28 = .ok (.ireturn, 1) := by decide +kernel
theorem dX11_townIs_0 : decode cX11_townIs 0 = .ok (.aload_n 0, 1) := by decide +kernel
theorem dX11_townIs_1 : decode cX11_townIs 1 = .ok (.getfield 10, 3) := by decide +kernel
theorem dX11_townIs_4 : decode cX11_townIs 4 = .ok (.getfield 138, 3) := by decide +kernel
theorem dX11_townIs_7 : decode cX11_townIs 7 = .ok (.iload_n 1, 1) := by decide +kernel
theorem dX11_townIs_8 : decode cX11_townIs 8 = .ok (.invokevirtual 110, 3) := by decide +kernel
theorem dX11_townIs_11 : decode cX11_townIs 11 = .ok (.ifCond .eq 12, 3) := by decide +kernel
theorem dX11_townIs_24 : decode cX11_townIs 24 = .ok (.iconst 1, 1) := by decide +kernel
theorem dX11_townIs_23 : decode cX11_townIs 23 = .ok (.aload_n 0, 1) := by decide +kernel
theorem dX11_townIs_25 : decode cX11_townIs 25 = .ok (.invokevirtual 94, 3) := by decide +kernel
theorem dX11_townIs_16 : decode cX11_townIs 16 = .ok (.iconst 4, 1) := by decide +kernel
theorem dX11_townIs_15 : decode cX11_townIs 15 = .ok (.iconst 0, 1) := by decide +kernel
theorem dX11_townIs_14 : decode cX11_townIs 14 = .ok (.iload_n 2, 1) := by decide +kernel
theorem dX11_townIs_17 : decode cX11_townIs 17 = .ok (.invokestatic 90, 3) := by decide +kernel
theorem dX11_townIs_28 : decode cX11_townIs 28 = .ok (.ireturn, 1) := by decide +kernel
theorem dX11_townIs_20 : decode cX11_townIs 20 = .ok (.ifCond .ne 9, 3) := by decide +kernel
theorem dX11_townIs_31 : decode cX11_townIs 31 = .ok (.if_icmp .ne 25, 3) := by decide +kernel
theorem dX11_townIs_30 : decode cX11_townIs 30 = .ok (.iconst 4, 1) := by decide +kernel
theorem dX11_townIs_29 : decode cX11_townIs 29 = .ok (.iload_n 2, 1) := by decide +kernel
theorem dX11_townIs_34 : decode cX11_townIs 34 = .ok (.aload_n 0, 1) := by decide +kernel
theorem dX11_townIs_35 : decode cX11_townIs 35 = .ok (.getfield 10, 3) := by decide +kernel
theorem dX11_townIs_38 : decode cX11_townIs 38 = .ok (.aload_n 0, 1) := by decide +kernel
theorem dX11_townIs_39 : decode cX11_townIs 39 = .ok (.getfield 10, 3) := by decide +kernel
theorem dX11_townIs_42 : decode cX11_townIs 42 = .ok (.getfield 138, 3) := by decide +kernel
theorem dX11_townIs_46 : decode cX11_townIs 46 = .ok (.iconst 0, 1) := by decide +kernel
theorem dX11_townIs_45 : decode cX11_townIs 45 = .ok (.iload_n 1, 1) := by decide +kernel
theorem dX11_townIs_47 : decode cX11_townIs 47 = .ok (.invokevirtual 141, 3) := by decide +kernel
theorem dX11_townIs_56 : decode cX11_townIs 56 = .ok (.aload_n 0, 1) := by decide +kernel
theorem dX11_townIs_57 : decode cX11_townIs 57 = .ok (.getfield 10, 3) := by decide +kernel
theorem dX11_townIs_60 : decode cX11_townIs 60 = .ok (.getfield 138, 3) := by decide +kernel
theorem dX11_townIs_64 : decode cX11_townIs 64 = .ok (.iload_n 2, 1) := by decide +kernel
theorem dX11_townIs_63 : decode cX11_townIs 63 = .ok (.iload_n 1, 1) := by decide +kernel
theorem dX11_townIs_65 : decode cX11_townIs 65 = .ok (.invokevirtual 141, 3) := by decide +kernel
theorem dX11_townIs_50 : decode cX11_townIs 50 = .ok (.invokevirtual 145, 3) := by decide +kernel
theorem dX11_townIs_68 : decode cX11_townIs 68 = .ok (.ireturn, 1) := by decide +kernel
theorem dX11_townIs_53 : decode cX11_townIs 53 = .ok (.goto 15, 3) := by decide +kernel
theorem dX11_plot_1 : decode cX11_plot 1 = .ok (.iload_n 2, 1) := by decide +kernel
theorem dX11_plot_0 : decode cX11_plot 0 = .ok (.iload_n 1, 1) := by decide +kernel
theorem dX11_plot_2 : decode cX11_plot 2 = .ok (.invokestatic 148, 3) := by decide +kernel
theorem dX11_plot_5 : decode cX11_plot 5 = .ok (.ifCond .ne 9, 3) := by decide +kernel
theorem dX11_plot_9 : decode cX11_plot 9 = .ok (.iconst 1, 1) := by decide +kernel
theorem dX11_plot_8 : decode cX11_plot 8 = .ok (.aload_n 0, 1) := by decide +kernel
theorem dX11_plot_10 : decode cX11_plot 10 = .ok (.invokevirtual 94, 3) := by decide +kernel
theorem dX11_plot_14 : decode cX11_plot 14 = .ok (.aload_n 0, 1) := by decide +kernel
theorem dX11_plot_15 : decode cX11_plot 15 = .ok (.getfield 10, 3) := by decide +kernel
theorem dX11_plot_18 : decode cX11_plot 18 = .ok (.iload_n 1, 1) := by decide +kernel
theorem dX11_plot_19 : decode cX11_plot 19 = .ok (.invokevirtual 152, 3) := by decide +kernel
theorem dX11_plot_13 : decode cX11_plot 13 = .ok (.ireturn, 1) := by decide +kernel
theorem dX11_plot_22 : decode cX11_plot 22 = .ok (.ifCond .ne 9, 3) := by decide +kernel
theorem dX11_plot_26 : decode cX11_plot 26 = .ok (.iconst 3, 1) := by decide +kernel
theorem dX11_plot_25 : decode cX11_plot 25 = .ok (.aload_n 0, 1) := by decide +kernel
theorem dX11_plot_27 : decode cX11_plot 27 = .ok (.invokevirtual 94, 3) := by decide +kernel
theorem dX11_plot_32 : decode cX11_plot 32 = .ok (.aload_n 0, 1) := by decide +kernel
theorem dX11_plot_31 : decode cX11_plot 31 = .ok (.aload_n 0, 1) := by decide +kernel
theorem dX11_plot_33 : decode cX11_plot 33 = .ok (.getfield 10, 3) := by decide +kernel
theorem dX11_plot_37 : decode cX11_plot 37 = .ok (.iload_n 2, 1) := by decide +kernel
theorem dX11_plot_36 : decode cX11_plot 36 = .ok (.iload_n 1, 1) := by decide +kernel
theorem dX11_plot_38 : decode cX11_plot 38 = .ok (.invokevirtual 155, 3) := by decide +kernel
theorem dX11_plot_30 : decode cX11_plot 30 = .ok (.ireturn, 1) := by decide +kernel
theorem dX11_plot_41 : decode cX11_plot 41 = .ok (.invokevirtual 135, 3) := by decide +kernel
theorem dX11_plot_44 : decode cX11_plot 44 = .ok (.ireturn, 1) := by decide +kernel
theorem dX11_plots_0 : decode cX11_plots 0 = .ok (.aload_n 0, 1) := by decide +kernel
theorem dX11_plots_1 : decode cX11_plots 1 = .ok (.getfield 44, 3) := by decide +kernel
theorem dX11_plots_4 : decode cX11_plots 4 = .ok (.iload_n 1, 1) := by decide +kernel
theorem dX11_plots_5 : decode cX11_plots 5 = .ok (.invokevirtual 158, 3) := by decide +kernel
theorem dX11_plots_10 : decode cX11_plots 10 = .ok (.ifCond .eq 9, 3) := by decide +kernel
theorem dX11_plots_9 : decode cX11_plots 9 = .ok (.iload_n 2, 1) := by decide +kernel
theorem dX11_plots_8 : decode cX11_plots 8 = .ok (.istore_n 2, 1) := by decide +kernel
theorem dX11_plots_19 : decode cX11_plots 19 = .ok (.aload_n 0, 1) := by decide +kernel
theorem dX11_plots_20 : decode cX11_plots 20 = .ok (.getfield 44, 3) := by decide +kernel
theorem dX11_plots_23 : decode cX11_plots 23 = .ok (.iload_n 1, 1) := by decide +kernel
theorem dX11_plots_24 : decode cX11_plots 24 = .ok (.invokevirtual 161, 3) := by decide +kernel
theorem dX11_plots_14 : decode cX11_plots 14 = .ok (.iload_n 2, 1) := by decide +kernel
theorem dX11_plots_13 : decode cX11_plots 13 = .ok (.aload_n 0, 1) := by decide +kernel
theorem dX11_plots_15 : decode cX11_plots 15 = .ok (.invokevirtual 94, 3) := by decide +kernel
theorem dX11_plots_29 : decode cX11_plots 29 = .ok (.ifCond .eq 9, 3) := by decide +kernel
theorem dX11_plots_28 : decode cX11_plots 28 = .ok (.irem, 1) := by decide +kernel
theorem dX11_plots_27 : decode cX11_plots 27 = .ok (.iconst 2, 1) := by decide +kernel
theorem dX11_plots_41 : decode cX11_plots 41 = .ok (.istore 4, 2) := by decide +kernel
theorem dX11_plots_40 : decode cX11_plots 40 = .ok (.iconst 0, 1) := by decide +kernel
theorem dX11_plots_39 : decode cX11_plots 39 = .ok (.istore_n 3, 1) := by decide +kernel
theorem dX11_plots_38 : decode cX11_plots 38 = .ok (.iconst 0, 1) := by decide +kernel
theorem dX11_plots_33 : decode cX11_plots 33 = .ok (.iconst 5, 1) := by decide +kernel
theorem dX11_plots_32 : decode cX11_plots 32 = .ok (.aload_n 0, 1) := by decide +kernel
theorem dX11_plots_34 : decode cX11_plots 34 = .ok (.invokevirtual 94, 3) := by decide +kernel
theorem dX11_plots_18 : decode cX11_plots 18 = .ok (.ireturn, 1) := by decide +kernel
theorem dX11_plots_45 : decode cX11_plots 45 = .ok (.aload_n 0, 1) := by decide +kernel
theorem dX11_plots_43 : decode cX11_plots 43 = .ok (.iload 4, 2) := by decide +kernel
theorem dX11_plots_46 : decode cX11_plots 46 = .ok (.getfield 44, 3) := by decide +kernel
theorem dX11_plots_49 : decode cX11_plots 49 = .ok (.iload_n 1, 1) := by decide +kernel
theorem dX11_plots_50 : decode cX11_plots 50 = .ok (.invokevirtual 161, 3) := by decide +kernel
theorem dX11_plots_37 : decode cX11_plots 37 = .ok (.ireturn, 1) := by decide +kernel
theorem dX11_plots_53 : decode cX11_plots 53 = .ok (.if_icmp .ge 79, 3) := by decide +kernel
theorem dX11_plots_132 : decode cX11_plots 132 = .ok (.aload_n 0, 1) := by decide +kernel
theorem dX11_plots_133 : decode cX11_plots 133 = .ok (.getfield 10, 3) := by decide +kernel
theorem dX11_plots_136 : decode cX11_plots 136 = .ok (.getfield 165, 3) := by decide +kernel
theorem dX11_plots_139 : decode cX11_plots 139 = .ok (.invokevirtual 168, 3) := by decide +kernel
theorem dX11_plots_56 : decode cX11_plots 56 = .ok (.aload_n 0, 1) := by decide +kernel
theorem dX11_plots_57 : decode cX11_plots 57 = .ok (.getfield 44, 3) := by decide +kernel
theorem dX11_plots_61 : decode cX11_plots 61 = .ok (.iload 4, 2) := by decide +kernel
theorem dX11_plots_60 : decode cX11_plots 60 = .ok (.iload_n 1, 1) := by decide +kernel
theorem dX11_plots_63 : decode cX11_plots 63 = .ok (.invokevirtual 164, 3) := by decide +kernel
theorem dX11_plots_146 : decode cX11_plots 146 = .ok (.if_icmp .le 9, 3) := by decide +kernel
theorem dX11_plots_144 : decode cX11_plots 144 = .ok (.bipush 24, 2) := by decide +kernel
theorem dX11_plots_143 : decode cX11_plots 143 = .ok (.iadd, 1) := by decide +kernel
theorem dX11_plots_142 : decode cX11_plots 142 = .ok (.iload_n 3, 1) := by decide +kernel
theorem dX11_plots_156 : decode cX11_plots 156 = .ok (.iload_n 1, 1) := by decide +kernel
theorem dX11_plots_155 : decode cX11_plots 155 = .ok (.aload_n 0, 1) := by decide +kernel
theorem dX11_plots_157 : decode cX11_plots 157 = .ok (.invokevirtual 171, 3) := by decide +kernel
theorem dX11_plots_150 : decode cX11_plots 150 = .ok (.iconst 4, 1) := by decide +kernel
theorem dX11_plots_149 : decode cX11_plots 149 = .ok (.aload_n 0, 1) := by decide +kernel
theorem dX11_plots_151 : decode cX11_plots 151 = .ok (.invokevirtual 94, 3) := by decide +kernel
theorem dX11_plots_71 : decode cX11_plots 71 = .ok (.if_icmp .eq 29, 3) := by decide +kernel
theorem dX11_plots_70 : decode cX11_plots 70 = .ok (.iconst (-1), 1) := by decide +kernel
theorem dX11_plots_68 : decode cX11_plots 68 = .ok (.iload 5, 2) := by decide +kernel
theorem dX11_plots_66 : decode cX11_plots 66 = .ok (.istore 5, 2) := by decide +kernel
theorem dX11_plots_104 : decode cX11_plots 104 = .ok (.if_icmp .eq 19, 3) := by decide +kernel
theorem dX11_plots_103 : decode cX11_plots 103 = .ok (.iconst (-1), 1) := by decide +kernel
theorem dX11_plots_101 : decode cX11_plots 101 = .ok (.iload 5, 2) := by decide +kernel
theorem dX11_plots_100 : decode cX11_plots 100 = .ok (.iload_n 3, 1) := by decide +kernel
theorem dX11_plots_129 : decode cX11_plots 129 = .ok (.goto (-86), 3) := by decide +kernel
theorem dX11_plots_126 : decode cX11_plots 126 = .ok (.iinc 4 2, 3) := by decide +kernel
theorem dX11_plots_125 : decode cX11_plots 125 = .ok (.istore_n 3, 1) := by decide +kernel
theorem dX11_plots_124 : decode cX11_plots 124 = .ok (.iadd, 1) := by decide +kernel
theorem dX11_plots_123 : decode cX11_plots 123 = .ok (.iconst 0, 1) := by decide +kernel
theorem dX11_plots_107 : decode cX11_plots 107 = .ok (.aload_n 0, 1) := by decide +kernel
theorem dX11_plots_108 : decode cX11_plots 108 = .ok (.getfield 10, 3) := by decide +kernel
theorem dX11_plots_111 : decode cX11_plots 111 = .ok (.iload 5, 2) := by decide +kernel
theorem dX11_plots_113 : decode cX11_plots 113 = .ok (.invokevirtual 152, 3) := by decide +kernel
theorem dX11_plots_76 : decode cX11_plots 76 = .ok (.aload_n 0, 1) := by decide +kernel
theorem dX11_plots_74 : decode cX11_plots 74 = .ok (.iload 5, 2) := by decide +kernel
theorem dX11_plots_77 : decode cX11_plots 77 = .ok (.getfield 44, 3) := by decide +kernel
theorem dX11_plots_84 : decode cX11_plots 84 = .ok (.iadd, 1) := by decide +kernel
theorem dX11_plots_83 : decode cX11_plots 83 = .ok (.iconst 1, 1) := by decide +kernel
theorem dX11_plots_81 : decode cX11_plots 81 = .ok (.iload 4, 2) := by decide +kernel
theorem dX11_plots_80 : decode cX11_plots 80 = .ok (.iload_n 1, 1) := by decide +kernel
theorem dX11_plots_85 : decode cX11_plots 85 = .ok (.invokevirtual 164, 3) := by decide +kernel
theorem dX11_plots_160 : decode cX11_plots 160 = .ok (.iload_n 3, 1) := by decide +kernel
theorem dX11_plots_161 : decode cX11_plots 161 = .ok (.ireturn, 1) := by decide +kernel
theorem dX11_plots_154 : decode cX11_plots 154 = .ok (.ireturn, 1) := by decide +kernel
theorem dX11_plots_116 : decode cX11_plots 116 = .ok (.ifCond .eq 7, 3) := by decide +kernel
theorem dX11_plots_120 : decode cX11_plots 120 = .ok (.goto 4, 3) := by decide +kernel
theorem dX11_plots_119 : decode cX11_plots 119 = .ok (.iconst 1, 1) := by decide +kernel
theorem dX11_plots_88 : decode cX11_plots 88 = .ok (.invokestatic 148, 3) := by decide +kernel
theorem dX11_plots_91 : decode cX11_plots 91 = .ok (.ifCond .ne 9, 3) := by decide +kernel
theorem dX11_plots_95 : decode cX11_plots 95 = .ok (.iconst 1, 1) := by decide +kernel
theorem dX11_plots_94 : decode cX11_plots 94 = .ok (.aload_n 0, 1) := by decide +kernel
theorem dX11_plots_96 : decode cX11_plots 96 = .ok (.invokevirtual 94, 3) := by decide +kernel
theorem dX11_plots_99 : decode cX11_plots 99 = .ok (.ireturn, 1) := by decide +kernel
theorem dX11_addPlots_1 : decode cX11_addPlots 1 = .ok (.istore_n 2, 1) := by decide +kernel
theorem dX11_addPlots_0 : decode cX11_addPlots 0 = .ok (.iconst 0, 1) := by decide +kernel
theorem dX11_addPlots_3 : decode cX11_addPlots 3 = .ok (.aload_n 0, 1) := by decide +kernel
theorem dX11_addPlots_2 : decode cX11_addPlots 2 = .ok (.iload_n 2, 1) := by decide +kernel
theorem dX11_addPlots_4 : decode cX11_addPlots 4 = .ok (.getfield 44, 3) := by decide +kernel
theorem dX11_addPlots_7 : decode cX11_addPlots 7 = .ok (.iload_n 1, 1) := by decide +kernel
theorem dX11_addPlots_8 : decode cX11_addPlots 8 = .ok (.invokevirtual 161, 3) := by decide +kernel
theorem dX11_addPlots_11 : decode cX11_addPlots 11 = .ok (.if_icmp .ge 55, 3) := by decide +kernel
theorem dX11_addPlots_66 : decode cX11_addPlots 66 = .ok (.return_, 1) := by decide +kernel
theorem dX11_addPlots_14 : decode cX11_addPlots 14 = .ok (.aload_n 0, 1) := by decide +kernel
theorem dX11_addPlots_15 : decode cX11_addPlots 15 = .ok (.getfield 44, 3) := by decide +kernel
theorem dX11_addPlots_19 : decode cX11_addPlots 19 = .ok (.iload_n 2, 1) := by decide +kernel
theorem dX11_addPlots_18 : decode cX11_addPlots 18 = .ok (.iload_n 1, 1) := by decide +kernel
theorem dX11_addPlots_20 : decode cX11_addPlots 20 = .ok (.invokevirtual 164, 3) := by decide +kernel
theorem dX11_addPlots_26 : decode cX11_addPlots 26 = .ok (.if_icmp .eq 34, 3) := by decide +kernel
theorem dX11_addPlots_25 : decode cX11_addPlots 25 = .ok (.iconst (-1), 1) := by decide +kernel
theorem dX11_addPlots_24 : decode cX11_addPlots 24 = .ok (.iload_n 3, 1) := by decide +kernel
theorem dX11_addPlots_23 : decode cX11_addPlots 23 = .ok (.istore_n 3, 1) := by decide +kernel
theorem dX11_addPlots_63 : decode cX11_addPlots 63 = .ok (.goto (-61), 3) := by decide +kernel
theorem dX11_addPlots_60 : decode cX11_addPlots 60 = .ok (.iinc 2 2, 3) := by decide +kernel
theorem dX11_addPlots_29 : decode cX11_addPlots 29 = .ok (.aload_n 0, 1) := by decide +kernel
theorem dX11_addPlots_30 : decode cX11_addPlots 30 = .ok (.getfield 10, 3) := by decide +kernel
theorem dX11_addPlots_33 : decode cX11_addPlots 33 = .ok (.iload_n 3, 1) := by decide +kernel
theorem dX11_addPlots_34 : decode cX11_addPlots 34 = .ok (.invokevirtual 152, 3) := by decide +kernel
theorem dX11_addPlots_37 : decode cX11_addPlots 37 = .ok (.ifCond .eq 23, 3) := by decide +kernel
theorem dX11_addPlots_40 : decode cX11_addPlots 40 = .ok (.aload_n 0, 1) := by decide +kernel
theorem dX11_addPlots_41 : decode cX11_addPlots 41 = .ok (.getfield 10, 3) := by decide +kernel
theorem dX11_addPlots_45 : decode cX11_addPlots 45 = .ok (.aload_n 0, 1) := by decide +kernel
theorem dX11_addPlots_44 : decode cX11_addPlots 44 = .ok (.iload_n 3, 1) := by decide +kernel
theorem dX11_addPlots_46 : decode cX11_addPlots 46 = .ok (.getfield 44, 3) := by decide +kernel
theorem dX11_addPlots_52 : decode cX11_addPlots 52 = .ok (.iadd, 1) := by decide +kernel
theorem dX11_addPlots_51 : decode cX11_addPlots 51 = .ok (.iconst 1, 1) := by decide +kernel
theorem dX11_addPlots_50 : decode cX11_addPlots 50 = .ok (.iload_n 2, 1) := by decide +kernel
theorem dX11_addPlots_49 : decode cX11_addPlots 49 = .ok (.iload_n 1, 1) := by decide +kernel
theorem dX11_addPlots_53 : decode cX11_addPlots 53 = .ok (.invokevirtual 164, 3) := by decide +kernel
theorem dX11_addPlots_56 : decode cX11_addPlots 56 = .ok (.invokevirtual 155, 3) := by decide +kernel
theorem dX11_addPlots_59 : decode cX11_addPlots 59 = .ok (.pop, 1) := by decide +kernel
theorem dX11_plotIs_0 : decode cX11_plotIs 0 = .ok (.aload_n 0, 1) := by decide +kernel
theorem dX11_plotIs_1 : decode cX11_plotIs 1 = .ok (.getfield 10, 3) := by decide +kernel
theorem dX11_plotIs_4 : decode cX11_plotIs 4 = .ok (.getfield 165, 3) := by decide +kernel
theorem dX11_plotIs_7 : decode cX11_plotIs 7 = .ok (.iload_n 1, 1) := by decide +kernel
theorem dX11_plotIs_8 : decode cX11_plotIs 8 = .ok (.invokevirtual 110, 3) := by decide +kernel
theorem dX11_plotIs_11 : decode cX11_plotIs 11 = .ok (.ifCond .eq 27, 3) := by decide +kernel
theorem dX11_plotIs_39 : decode cX11_plotIs 39 = .ok (.iconst 1, 1) := by decide +kernel
theorem dX11_plotIs_38 : decode cX11_plotIs 38 = .ok (.aload_n 0, 1) := by decide +kernel
theorem dX11_plotIs_40 : decode cX11_plotIs 40 = .ok (.invokevirtual 94, 3) := by decide +kernel
theorem dX11_plotIs_16 : decode cX11_plotIs 16 = .ok (.iconst 2, 1) := by decide +kernel
theorem dX11_plotIs_15 : decode cX11_plotIs 15 = .ok (.iconst 0, 1) := by decide +kernel
theorem dX11_plotIs_14 : decode cX11_plotIs 14 = .ok (.iload_n 2, 1) := by decide +kernel
theorem dX11_plotIs_17 : decode cX11_plotIs 17 = .ok (.invokestatic 90, 3) := by decide +kernel
theorem dX11_plotIs_43 : decode cX11_plotIs 43 = .ok (.ireturn, 1) := by decide +kernel
theorem dX11_plotIs_20 : decode cX11_plotIs 20 = .ok (.ifCond .eq 18, 3) := by decide +kernel
theorem dX11_plotIs_23 : decode cX11_plotIs 23 = .ok (.aload_n 0, 1) := by decide +kernel
theorem dX11_plotIs_24 : decode cX11_plotIs 24 = .ok (.getfield 10, 3) := by decide +kernel
theorem dX11_plotIs_27 : decode cX11_plotIs 27 = .ok (.getfield 165, 3) := by decide +kernel
theorem dX11_plotIs_31 : decode cX11_plotIs 31 = .ok (.iload_n 2, 1) := by decide +kernel
theorem dX11_plotIs_30 : decode cX11_plotIs 30 = .ok (.iload_n 1, 1) := by decide +kernel
theorem dX11_plotIs_32 : decode cX11_plotIs 32 = .ok (.invokevirtual 141, 3) := by decide +kernel
theorem dX11_plotIs_35 : decode cX11_plotIs 35 = .ok (.goto 8, 3) := by decide +kernel
theorem dX11_follows_0 : decode cX11_follows 0 = .ok (.aload_n 0, 1) := by decide +kernel
theorem dX11_follows_1 : decode cX11_follows 1 = .ok (.getfield 10, 3) := by decide +kernel
theorem dX11_follows_4 : decode cX11_follows 4 = .ok (.getfield 165, 3) := by decide +kernel
theorem dX11_follows_7 : decode cX11_follows 7 = .ok (.iload_n 1, 1) := by decide +kernel
theorem dX11_follows_8 : decode cX11_follows 8 = .ok (.invokevirtual 110, 3) := by decide +kernel
theorem dX11_follows_11 : decode cX11_follows 11 = .ok (.ifCond .eq 17, 3) := by decide +kernel
theorem dX11_follows_29 : decode cX11_follows 29 = .ok (.iconst 1, 1) := by decide +kernel
theorem dX11_follows_28 : decode cX11_follows 28 = .ok (.aload_n 0, 1) := by decide +kernel
theorem dX11_follows_30 : decode cX11_follows 30 = .ok (.invokevirtual 94, 3) := by decide +kernel
theorem dX11_follows_14 : decode cX11_follows 14 = .ok (.aload_n 0, 1) := by decide +kernel
theorem dX11_follows_15 : decode cX11_follows 15 = .ok (.getfield 10, 3) := by decide +kernel
theorem dX11_follows_18 : decode cX11_follows 18 = .ok (.getfield 165, 3) := by decide +kernel
theorem dX11_follows_21 : decode cX11_follows 21 = .ok (.iload_n 2, 1) := by decide +kernel
theorem dX11_follows_22 : decode cX11_follows 22 = .ok (.invokevirtual 110, 3) := by decide +kernel
theorem dX11_follows_33 : decode cX11_follows 33 = .ok (.ireturn, 1) := by decide +kernel
theorem dX11_follows_25 : decode cX11_follows 25 = .ok (.ifCond .ne 9, 3) := by decide +kernel
theorem dX11_follows_34 : decode cX11_follows 34 = .ok (.aload_n 0, 1) := by decide +kernel
theorem dX11_follows_35 : decode cX11_follows 35 = .ok (.getfield 10, 3) := by decide +kernel
theorem dX11_follows_39 : decode cX11_follows 39 = .ok (.iload_n 2, 1) := by decide +kernel
theorem dX11_follows_38 : decode cX11_follows 38 = .ok (.iload_n 1, 1) := by decide +kernel
theorem dX11_follows_40 : decode cX11_follows 40 = .ok (.invokevirtual 175, 3) := by decide +kernel
theorem dX11_follows_43 : decode cX11_follows 43 = .ok (.ifCond .eq 7, 3) := by decide +kernel
theorem dX11_follows_50 : decode cX11_follows 50 = .ok (.iconst 0, 1) := by decide +kernel
theorem dX11_follows_51 : decode cX11_follows 51 = .ok (.ireturn, 1) := by decide +kernel
theorem dX11_follows_47 : decode cX11_follows 47 = .ok (.goto 4, 3) := by decide +kernel
theorem dX11_follows_46 : decode cX11_follows 46 = .ok (.iconst 1, 1) := by decide +kernel
theorem dX11_tracking_1 : decode cX11_tracking 1 = .ok (.iload_n 1, 1) := by decide +kernel
theorem dX11_tracking_0 : decode cX11_tracking 0 = .ok (.aload_n 0, 1) := by decide +kernel
theorem dX11_tracking_2 : decode cX11_tracking 2 = .ok (.invokevirtual 178, 3) := by decide +kernel
theorem dX11_tracking_5 : decode cX11_tracking 5 = .ok (.ifCond .eq 9, 3) := by decide +kernel
theorem dX11_tracking_15 : decode cX11_tracking 15 = .ok (.iconst 1, 1) := by decide +kernel
theorem dX11_tracking_14 : decode cX11_tracking 14 = .ok (.aload_n 0, 1) := by decide +kernel
theorem dX11_tracking_16 : decode cX11_tracking 16 = .ok (.invokevirtual 94, 3) := by decide +kernel
theorem dX11_tracking_11 : decode cX11_tracking 11 = .ok (.if_icmp .ge 9, 3) := by decide +kernel
theorem dX11_tracking_9 : decode cX11_tracking 9 = .ok (.bipush (-2), 2) := by decide +kernel
theorem dX11_tracking_8 : decode cX11_tracking 8 = .ok (.iload_n 2, 1) := by decide +kernel
theorem dX11_tracking_20 : decode cX11_tracking 20 = .ok (.iload_n 1, 1) := by decide +kernel
theorem dX11_tracking_21 : decode cX11_tracking 21 = .ok (.invokestatic 181, 3) := by decide +kernel
theorem dX11_tracking_19 : decode cX11_tracking 19 = .ok (.ireturn, 1) := by decide +kernel
theorem dX11_tracking_25 : decode cX11_tracking 25 = .ok (.bipush 9, 2) := by decide +kernel
theorem dX11_tracking_24 : decode cX11_tracking 24 = .ok (.iconst 1, 1) := by decide +kernel
theorem dX11_tracking_27 : decode cX11_tracking 27 = .ok (.invokestatic 90, 3) := by decide +kernel
theorem dX11_tracking_30 : decode cX11_tracking 30 = .ok (.ifCond .ne 9, 3) := by decide +kernel
theorem dX11_tracking_34 : decode cX11_tracking 34 = .ok (.iconst 5, 1) := by decide +kernel
theorem dX11_tracking_33 : decode cX11_tracking 33 = .ok (.aload_n 0, 1) := by decide +kernel
theorem dX11_tracking_35 : decode cX11_tracking 35 = .ok (.invokevirtual 94, 3) := by decide +kernel
theorem dX11_tracking_40 : decode cX11_tracking 40 = .ok (.ifCond .lt 17, 3) := by decide +kernel
theorem dX11_tracking_39 : decode cX11_tracking 39 = .ok (.iload_n 2, 1) := by decide +kernel
theorem dX11_tracking_58 : decode cX11_tracking 58 = .ok (.iload_n 1, 1) := by decide +kernel
theorem dX11_tracking_57 : decode cX11_tracking 57 = .ok (.aload_n 0, 1) := by decide +kernel
theorem dX11_tracking_59 : decode cX11_tracking 59 = .ok (.invokevirtual 189, 3) := by decide +kernel
theorem dX11_tracking_44 : decode cX11_tracking 44 = .ok (.iload_n 2, 1) := by decide +kernel
theorem dX11_tracking_43 : decode cX11_tracking 43 = .ok (.iload_n 1, 1) := by decide +kernel
theorem dX11_tracking_45 : decode cX11_tracking 45 = .ok (.invokestatic 186, 3) := by decide +kernel
theorem dX11_tracking_38 : decode cX11_tracking 38 = .ok (.ireturn, 1) := by decide +kernel
theorem dX11_tracking_62 : decode cX11_tracking 62 = .ok (.aload_n 0, 1) := by decide +kernel
theorem dX11_tracking_63 : decode cX11_tracking 63 = .ok (.getfield 51, 3) := by decide +kernel
theorem dX11_tracking_66 : decode cX11_tracking 66 = .ok (.bipush 9, 2) := by decide +kernel
theorem dX11_tracking_68 : decode cX11_tracking 68 = .ok (.invokevirtual 192, 3) := by decide +kernel
theorem dX11_tracking_48 : decode cX11_tracking 48 = .ok (.ifCond .ne 9, 3) := by decide +kernel
theorem dX11_tracking_52 : decode cX11_tracking 52 = .ok (.iconst 2, 1) := by decide +kernel
theorem dX11_tracking_51 : decode cX11_tracking 51 = .ok (.aload_n 0, 1) := by decide +kernel
theorem dX11_tracking_53 : decode cX11_tracking 53 = .ok (.invokevirtual 94, 3) := by decide +kernel
theorem dX11_tracking_73 : decode cX11_tracking 73 = .ok (.if_icmp .ne 16, 3) := by decide +kernel
theorem dX11_tracking_72 : decode cX11_tracking 72 = .ok (.iconst (-1), 1) := by decide +kernel
theorem dX11_tracking_71 : decode cX11_tracking 71 = .ok (.iload_n 2, 1) := by decide +kernel
theorem dX11_tracking_76 : decode cX11_tracking 76 = .ok (.iload_n 1, 1) := by decide +kernel
theorem dX11_tracking_77 : decode cX11_tracking 77 = .ok (.invokestatic 181, 3) := by decide +kernel
theorem dX11_tracking_92 : decode cX11_tracking 92 = .ok (.if_icmp .ne 13, 3) := by decide +kernel
theorem dX11_tracking_90 : decode cX11_tracking 90 = .ok (.bipush (-2), 2) := by decide +kernel
theorem dX11_tracking_89 : decode cX11_tracking 89 = .ok (.iload_n 2, 1) := by decide +kernel
theorem dX11_tracking_95 : decode cX11_tracking 95 = .ok (.aload_n 0, 1) := by decide +kernel
theorem dX11_tracking_96 : decode cX11_tracking 96 = .ok (.getfield 51, 3) := by decide +kernel
theorem dX11_tracking_99 : decode cX11_tracking 99 = .ok (.invokevirtual 198, 3) := by decide +kernel
theorem dX11_tracking_105 : decode cX11_tracking 105 = .ok (.aload_n 0, 1) := by decide +kernel
theorem dX11_tracking_106 : decode cX11_tracking 106 = .ok (.getfield 51, 3) := by decide +kernel
theorem dX11_tracking_109 : decode cX11_tracking 109 = .ok (.aload_n 0, 1) := by decide +kernel
theorem dX11_tracking_110 : decode cX11_tracking 110 = .ok (.getfield 51, 3) := by decide +kernel
theorem dX11_tracking_113 : decode cX11_tracking 113 = .ok (.getfield 201, 3) := by decide +kernel
theorem dX11_tracking_116 : decode cX11_tracking 116 = .ok (.iload_n 2, 1) := by decide +kernel
theorem dX11_tracking_117 : decode cX11_tracking 117 = .ok (.invokevirtual 204, 3) := by decide +kernel
theorem dX11_tracking_56 : decode cX11_tracking 56 = .ok (.ireturn, 1) := by decide +kernel
theorem dX11_tracking_80 : decode cX11_tracking 80 = .ok (.aload_n 0, 1) := by decide +kernel
theorem dX11_tracking_81 : decode cX11_tracking 81 = .ok (.getfield 51, 3) := by decide +kernel
theorem dX11_tracking_84 : decode cX11_tracking 84 = .ok (.invokevirtual 195, 3) := by decide +kernel
theorem dX11_tracking_102 : decode cX11_tracking 102 = .ok (.goto 21, 3) := by decide +kernel
theorem dX11_tracking_123 : decode cX11_tracking 123 = .ok (.ireturn, 1) := by decide +kernel
theorem dX11_tracking_120 : decode cX11_tracking 120 = .ok (.invokevirtual 207, 3) := by decide +kernel
theorem dX11_tracking_87 : decode cX11_tracking 87 = .ok (.isub, 1) := by decide +kernel
theorem dX11_tracking_88 : decode cX11_tracking 88 = .ok (.ireturn, 1) := by decide +kernel
theorem dX11_matchPlots_0 : decode cX11_matchPlots 0 = .ok (.aload_n 0, 1) := by decide +kernel
theorem dX11_matchPlots_1 : decode cX11_matchPlots 1 = .ok (.getfield 51, 3) := by decide +kernel
theorem dX11_matchPlots_4 : decode cX11_matchPlots 4 = .ok (.invokevirtual 210, 3) := by decide +kernel
theorem dX11_matchPlots_8 : decode cX11_matchPlots 8 = .ok (.istore_n 2, 1) := by decide +kernel
theorem dX11_matchPlots_7 : decode cX11_matchPlots 7 = .ok (.iconst 0, 1) := by decide +kernel
theorem dX11_matchPlots_10 : decode cX11_matchPlots 10 = .ok (.aload_n 0, 1) := by decide +kernel
theorem dX11_matchPlots_9 : decode cX11_matchPlots 9 = .ok (.iload_n 2, 1) := by decide +kernel
theorem dX11_matchPlots_11 : decode cX11_matchPlots 11 = .ok (.getfield 10, 3) := by decide +kernel
theorem dX11_matchPlots_14 : decode cX11_matchPlots 14 = .ok (.getfield 165, 3) := by decide +kernel
theorem dX11_matchPlots_17 : decode cX11_matchPlots 17 = .ok (.invokevirtual 168, 3) := by decide +kernel
theorem dX11_matchPlots_20 : decode cX11_matchPlots 20 = .ok (.if_icmp .ge 41, 3) := by decide +kernel
theorem dX11_matchPlots_62 : decode cX11_matchPlots 62 = .ok (.istore_n 2, 1) := by decide +kernel
theorem dX11_matchPlots_61 : decode cX11_matchPlots 61 = .ok (.iconst 0, 1) := by decide +kernel
theorem dX11_matchPlots_24 : decode cX11_matchPlots 24 = .ok (.iload_n 2, 1) := by decide +kernel
theorem dX11_matchPlots_23 : decode cX11_matchPlots 23 = .ok (.iload_n 1, 1) := by decide +kernel
theorem dX11_matchPlots_25 : decode cX11_matchPlots 25 = .ok (.invokestatic 186, 3) := by decide +kernel
theorem dX11_matchPlots_64 : decode cX11_matchPlots 64 = .ok (.aload_n 0, 1) := by decide +kernel
theorem dX11_matchPlots_63 : decode cX11_matchPlots 63 = .ok (.iload_n 2, 1) := by decide +kernel
theorem dX11_matchPlots_65 : decode cX11_matchPlots 65 = .ok (.getfield 51, 3) := by decide +kernel
theorem dX11_matchPlots_68 : decode cX11_matchPlots 68 = .ok (.getfield 201, 3) := by decide +kernel
theorem dX11_matchPlots_71 : decode cX11_matchPlots 71 = .ok (.invokevirtual 168, 3) := by decide +kernel
theorem dX11_matchPlots_28 : decode cX11_matchPlots 28 = .ok (.ifCond .eq 27, 3) := by decide +kernel
theorem dX11_matchPlots_58 : decode cX11_matchPlots 58 = .ok (.goto (-49), 3) := by decide +kernel
theorem dX11_matchPlots_55 : decode cX11_matchPlots 55 = .ok (.iinc 2 1, 3) := by decide +kernel
theorem dX11_matchPlots_31 : decode cX11_matchPlots 31 = .ok (.aload_n 0, 1) := by decide +kernel
theorem dX11_matchPlots_32 : decode cX11_matchPlots 32 = .ok (.getfield 51, 3) := by decide +kernel
theorem dX11_matchPlots_35 : decode cX11_matchPlots 35 = .ok (.getfield 201, 3) := by decide +kernel
theorem dX11_matchPlots_38 : decode cX11_matchPlots 38 = .ok (.iload_n 2, 1) := by decide +kernel
theorem dX11_matchPlots_39 : decode cX11_matchPlots 39 = .ok (.invokevirtual 101, 3) := by decide +kernel
theorem dX11_matchPlots_74 : decode cX11_matchPlots 74 = .ok (.if_icmp .ge 93, 3) := by decide +kernel
theorem dX11_matchPlots_167 : decode cX11_matchPlots 167 = .ok (.return_, 1) := by decide +kernel
theorem dX11_matchPlots_78 : decode cX11_matchPlots 78 = .ok (.istore_n 3, 1) := by decide +kernel
theorem dX11_matchPlots_77 : decode cX11_matchPlots 77 = .ok (.iconst 0, 1) := by decide +kernel
theorem dX11_matchPlots_43 : decode cX11_matchPlots 43 = .ok (.aload_n 0, 1) := by decide +kernel
theorem dX11_matchPlots_42 : decode cX11_matchPlots 42 = .ok (.pop, 1) := by decide +kernel
theorem dX11_matchPlots_44 : decode cX11_matchPlots 44 = .ok (.getfield 51, 3) := by decide +kernel
theorem dX11_matchPlots_47 : decode cX11_matchPlots 47 = .ok (.getfield 213, 3) := by decide +kernel
theorem dX11_matchPlots_50 : decode cX11_matchPlots 50 = .ok (.iload_n 2, 1) := by decide +kernel
theorem dX11_matchPlots_51 : decode cX11_matchPlots 51 = .ok (.invokevirtual 101, 3) := by decide +kernel
theorem dX11_matchPlots_80 : decode cX11_matchPlots 80 = .ok (.aload_n 0, 1) := by decide +kernel
theorem dX11_matchPlots_79 : decode cX11_matchPlots 79 = .ok (.iload_n 3, 1) := by decide +kernel
theorem dX11_matchPlots_81 : decode cX11_matchPlots 81 = .ok (.getfield 51, 3) := by decide +kernel
theorem dX11_matchPlots_84 : decode cX11_matchPlots 84 = .ok (.getfield 213, 3) := by decide +kernel
theorem dX11_matchPlots_87 : decode cX11_matchPlots 87 = .ok (.invokevirtual 168, 3) := by decide +kernel
theorem dX11_matchPlots_54 : decode cX11_matchPlots 54 = .ok (.pop, 1) := by decide +kernel
theorem dX11_matchPlots_90 : decode cX11_matchPlots 90 = .ok (.if_icmp .ge 71, 3) := by decide +kernel
theorem dX11_matchPlots_164 : decode cX11_matchPlots 164 = .ok (.goto (-101), 3) := by decide +kernel
theorem dX11_matchPlots_161 : decode cX11_matchPlots 161 = .ok (.iinc 2 1, 3) := by decide +kernel
theorem dX11_matchPlots_93 : decode cX11_matchPlots 93 = .ok (.aload_n 0, 1) := by decide +kernel
theorem dX11_matchPlots_94 : decode cX11_matchPlots 94 = .ok (.getfield 51, 3) := by decide +kernel
theorem dX11_matchPlots_97 : decode cX11_matchPlots 97 = .ok (.getfield 201, 3) := by decide +kernel
theorem dX11_matchPlots_101 : decode cX11_matchPlots 101 = .ok (.iconst 0, 1) := by decide +kernel
theorem dX11_matchPlots_100 : decode cX11_matchPlots 100 = .ok (.iload_n 2, 1) := by decide +kernel
theorem dX11_matchPlots_102 : decode cX11_matchPlots 102 = .ok (.invokevirtual 141, 3) := by decide +kernel
theorem dX11_matchPlots_107 : decode cX11_matchPlots 107 = .ok (.aload_n 0, 1) := by decide +kernel
theorem dX11_matchPlots_105 : decode cX11_matchPlots 105 = .ok (.istore 4, 2) := by decide +kernel
theorem dX11_matchPlots_108 : decode cX11_matchPlots 108 = .ok (.getfield 51, 3) := by decide +kernel
theorem dX11_matchPlots_111 : decode cX11_matchPlots 111 = .ok (.getfield 213, 3) := by decide +kernel
theorem dX11_matchPlots_115 : decode cX11_matchPlots 115 = .ok (.iconst 0, 1) := by decide +kernel
theorem dX11_matchPlots_114 : decode cX11_matchPlots 114 = .ok (.iload_n 3, 1) := by decide +kernel
theorem dX11_matchPlots_116 : decode cX11_matchPlots 116 = .ok (.invokevirtual 141, 3) := by decide +kernel
theorem dX11_matchPlots_121 : decode cX11_matchPlots 121 = .ok (.aload_n 0, 1) := by decide +kernel
theorem dX11_matchPlots_119 : decode cX11_matchPlots 119 = .ok (.istore 5, 2) := by decide +kernel
theorem dX11_matchPlots_122 : decode cX11_matchPlots 122 = .ok (.getfield 10, 3) := by decide +kernel
theorem dX11_matchPlots_127 : decode cX11_matchPlots 127 = .ok (.iload 4, 2) := by decide +kernel
theorem dX11_matchPlots_125 : decode cX11_matchPlots 125 = .ok (.iload 5, 2) := by decide +kernel
theorem dX11_matchPlots_129 : decode cX11_matchPlots 129 = .ok (.invokevirtual 175, 3) := by decide +kernel
theorem dX11_matchPlots_132 : decode cX11_matchPlots 132 = .ok (.ifCond .eq 23, 3) := by decide +kernel
theorem dX11_matchPlots_158 : decode cX11_matchPlots 158 = .ok (.goto (-79), 3) := by decide +kernel
theorem dX11_matchPlots_155 : decode cX11_matchPlots 155 = .ok (.iinc 3 1, 3) := by decide +kernel
theorem dX11_matchPlots_135 : decode cX11_matchPlots 135 = .ok (.aload_n 0, 1) := by decide +kernel
theorem dX11_matchPlots_136 : decode cX11_matchPlots 136 = .ok (.getfield 51, 3) := by decide +kernel
theorem dX11_matchPlots_141 : decode cX11_matchPlots 141 = .ok (.aload_n 0, 1) := by decide +kernel
theorem dX11_matchPlots_140 : decode cX11_matchPlots 140 = .ok (.iload_n 3, 1) := by decide +kernel
theorem dX11_matchPlots_139 : decode cX11_matchPlots 139 = .ok (.iload_n 2, 1) := by decide +kernel
theorem dX11_matchPlots_142 : decode cX11_matchPlots 142 = .ok (.getfield 10, 3) := by decide +kernel
theorem dX11_matchPlots_147 : decode cX11_matchPlots 147 = .ok (.iload 4, 2) := by decide +kernel
theorem dX11_matchPlots_145 : decode cX11_matchPlots 145 = .ok (.iload 5, 2) := by decide +kernel
theorem dX11_matchPlots_149 : decode cX11_matchPlots 149 = .ok (.invokevirtual 216, 3) := by decide +kernel
theorem dX11_matchPlots_152 : decode cX11_matchPlots 152 = .ok (.invokevirtual 219, 3) := by decide +kernel
theorem dX11_judge_1 : decode cX11_judge 1 = .ok (.iload_n 1, 1) := by decide +kernel
theorem dX11_judge_0 : decode cX11_judge 0 = .ok (.aload_n 0, 1) := by decide +kernel
theorem dX11_judge_2 : decode cX11_judge 2 = .ok (.invokevirtual 178, 3) := by decide +kernel
theorem dX11_judge_5 : decode cX11_judge 5 = .ok (.ifCond .ne 9, 3) := by decide +kernel
theorem dX11_judge_9 : decode cX11_judge 9 = .ok (.iconst 1, 1) := by decide +kernel
theorem dX11_judge_8 : decode cX11_judge 8 = .ok (.aload_n 0, 1) := by decide +kernel
theorem dX11_judge_10 : decode cX11_judge 10 = .ok (.invokevirtual 94, 3) := by decide +kernel
theorem dX11_judge_14 : decode cX11_judge 14 = .ok (.aload_n 0, 1) := by decide +kernel
theorem dX11_judge_15 : decode cX11_judge 15 = .ok (.getfield 44, 3) := by decide +kernel
theorem dX11_judge_18 : decode cX11_judge 18 = .ok (.iload_n 2, 1) := by decide +kernel
theorem dX11_judge_19 : decode cX11_judge 19 = .ok (.invokevirtual 158, 3) := by decide +kernel
theorem dX11_judge_13 : decode cX11_judge 13 = .ok (.ireturn, 1) := by decide +kernel
theorem dX11_judge_24 : decode cX11_judge 24 = .ok (.ifCond .eq 9, 3) := by decide +kernel
theorem dX11_judge_23 : decode cX11_judge 23 = .ok (.iload_n 3, 1) := by decide +kernel
theorem dX11_judge_22 : decode cX11_judge 22 = .ok (.istore_n 3, 1) := by decide +kernel
theorem dX11_judge_33 : decode cX11_judge 33 = .ok (.iload_n 1, 1) := by decide +kernel
theorem dX11_judge_34 : decode cX11_judge 34 = .ok (.invokestatic 181, 3) := by decide +kernel
theorem dX11_judge_28 : decode cX11_judge 28 = .ok (.iload_n 3, 1) := by decide +kernel
theorem dX11_judge_27 : decode cX11_judge 27 = .ok (.aload_n 0, 1) := by decide +kernel
theorem dX11_judge_29 : decode cX11_judge 29 = .ok (.invokevirtual 94, 3) := by decide +kernel
theorem dX11_judge_42 : decode cX11_judge 42 = .ok (.bipush 9, 2) := by decide +kernel
theorem dX11_judge_41 : decode cX11_judge 41 = .ok (.iconst 1, 1) := by decide +kernel
theorem dX11_judge_39 : decode cX11_judge 39 = .ok (.iload 4, 2) := by decide +kernel
theorem dX11_judge_37 : decode cX11_judge 37 = .ok (.istore 4, 2) := by decide +kernel
theorem dX11_judge_44 : decode cX11_judge 44 = .ok (.invokestatic 90, 3) := by decide +kernel
theorem dX11_judge_32 : decode cX11_judge 32 = .ok (.ireturn, 1) := by decide +kernel
theorem dX11_judge_47 : decode cX11_judge 47 = .ok (.ifCond .eq 16, 3) := by decide +kernel
theorem dX11_judge_64 : decode cX11_judge 64 = .ok (.iconst 5, 1) := by decide +kernel
theorem dX11_judge_63 : decode cX11_judge 63 = .ok (.aload_n 0, 1) := by decide +kernel
theorem dX11_judge_65 : decode cX11_judge 65 = .ok (.invokevirtual 94, 3) := by decide +kernel
theorem dX11_judge_50 : decode cX11_judge 50 = .ok (.aload_n 0, 1) := by decide +kernel
theorem dX11_judge_51 : decode cX11_judge 51 = .ok (.getfield 44, 3) := by decide +kernel
theorem dX11_judge_54 : decode cX11_judge 54 = .ok (.iload_n 2, 1) := by decide +kernel
theorem dX11_judge_55 : decode cX11_judge 55 = .ok (.invokevirtual 161, 3) := by decide +kernel
theorem dX11_judge_68 : decode cX11_judge 68 = .ok (.ireturn, 1) := by decide +kernel
theorem dX11_judge_60 : decode cX11_judge 60 = .ok (.if_icmp .eq 9, 3) := by decide +kernel
theorem dX11_judge_58 : decode cX11_judge 58 = .ok (.iload 4, 2) := by decide +kernel
theorem dX11_judge_71 : decode cX11_judge 71 = .ok (.iload_n 2, 1) := by decide +kernel
theorem dX11_judge_70 : decode cX11_judge 70 = .ok (.iload_n 1, 1) := by decide +kernel
theorem dX11_judge_69 : decode cX11_judge 69 = .ok (.aload_n 0, 1) := by decide +kernel
theorem dX11_judge_72 : decode cX11_judge 72 = .ok (.invokevirtual 222, 3) := by decide +kernel
theorem dX11_judge_75 : decode cX11_judge 75 = .ok (.ireturn, 1) := by decide +kernel
theorem dX11_tracksOf_9 : decode cX11_tracksOf 9 = .ok (.istore 6, 2) := by decide +kernel
theorem dX11_tracksOf_8 : decode cX11_tracksOf 8 = .ok (.iconst 0, 1) := by decide +kernel
theorem dX11_tracksOf_6 : decode cX11_tracksOf 6 = .ok (.istore 5, 2) := by decide +kernel
theorem dX11_tracksOf_5 : decode cX11_tracksOf 5 = .ok (.iconst 0, 1) := by decide +kernel
theorem dX11_tracksOf_3 : decode cX11_tracksOf 3 = .ok (.istore 4, 2) := by decide +kernel
theorem dX11_tracksOf_2 : decode cX11_tracksOf 2 = .ok (.iconst 0, 1) := by decide +kernel
theorem dX11_tracksOf_1 : decode cX11_tracksOf 1 = .ok (.istore_n 3, 1) := by decide +kernel
theorem dX11_tracksOf_0 : decode cX11_tracksOf 0 = .ok (.iconst 0, 1) := by decide +kernel
theorem dX11_tracksOf_13 : decode cX11_tracksOf 13 = .ok (.aload_n 0, 1) := by decide +kernel
theorem dX11_tracksOf_11 : decode cX11_tracksOf 11 = .ok (.iload 6, 2) := by decide +kernel
theorem dX11_tracksOf_14 : decode cX11_tracksOf 14 = .ok (.getfield 10, 3) := by decide +kernel
theorem dX11_tracksOf_17 : decode cX11_tracksOf 17 = .ok (.getfield 165, 3) := by decide +kernel
theorem dX11_tracksOf_20 : decode cX11_tracksOf 20 = .ok (.invokevirtual 168, 3) := by decide +kernel
theorem dX11_tracksOf_23 : decode cX11_tracksOf 23 = .ok (.if_icmp .ge 87, 3) := by decide +kernel
theorem dX11_tracksOf_110 : decode cX11_tracksOf 110 = .ok (.iload_n 3, 1) := by decide +kernel
theorem dX11_tracksOf_111 : decode cX11_tracksOf 111 = .ok (.ireturn, 1) := by decide +kernel
theorem dX11_tracksOf_27 : decode cX11_tracksOf 27 = .ok (.iload 6, 2) := by decide +kernel
theorem dX11_tracksOf_26 : decode cX11_tracksOf 26 = .ok (.iload_n 1, 1) := by decide +kernel
theorem dX11_tracksOf_29 : decode cX11_tracksOf 29 = .ok (.invokestatic 186, 3) := by decide +kernel
theorem dX11_tracksOf_32 : decode cX11_tracksOf 32 = .ok (.ifCond .ne 6, 3) := by decide +kernel
theorem dX11_tracksOf_35 : decode cX11_tracksOf 35 = .ok (.goto 69, 3) := by decide +kernel
theorem dX11_tracksOf_107 : decode cX11_tracksOf 107 = .ok (.goto (-96), 3) := by decide +kernel
theorem dX11_tracksOf_104 : decode cX11_tracksOf 104 = .ok (.iinc 6 1, 3) := by decide +kernel
theorem dX11_tracksOf_38 : decode cX11_tracksOf 38 = .ok (.aload_n 0, 1) := by decide +kernel
theorem dX11_tracksOf_39 : decode cX11_tracksOf 39 = .ok (.getfield 44, 3) := by decide +kernel
theorem dX11_tracksOf_45 : decode cX11_tracksOf 45 = .ok (.iinc 4 1, 3) := by decide +kernel
theorem dX11_tracksOf_43 : decode cX11_tracksOf 43 = .ok (.iload 4, 2) := by decide +kernel
theorem dX11_tracksOf_42 : decode cX11_tracksOf 42 = .ok (.iload_n 2, 1) := by decide +kernel
theorem dX11_tracksOf_48 : decode cX11_tracksOf 48 = .ok (.invokevirtual 164, 3) := by decide +kernel
theorem dX11_tracksOf_56 : decode cX11_tracksOf 56 = .ok (.if_icmp .ne 9, 3) := by decide +kernel
theorem dX11_tracksOf_55 : decode cX11_tracksOf 55 = .ok (.iconst (-1), 1) := by decide +kernel
theorem dX11_tracksOf_53 : decode cX11_tracksOf 53 = .ok (.iload 7, 2) := by decide +kernel
theorem dX11_tracksOf_51 : decode cX11_tracksOf 51 = .ok (.istore 7, 2) := by decide +kernel
theorem dX11_tracksOf_62 : decode cX11_tracksOf 62 = .ok (.goto 42, 3) := by decide +kernel
theorem dX11_tracksOf_59 : decode cX11_tracksOf 59 = .ok (.iinc 3 1, 3) := by decide +kernel
theorem dX11_tracksOf_71 : decode cX11_tracksOf 71 = .ok (.iload 7, 2) := by decide +kernel
theorem dX11_tracksOf_70 : decode cX11_tracksOf 70 = .ok (.iand, 1) := by decide +kernel
theorem dX11_tracksOf_69 : decode cX11_tracksOf 69 = .ok (.ixor, 1) := by decide +kernel
theorem dX11_tracksOf_68 : decode cX11_tracksOf 68 = .ok (.iconst (-1), 1) := by decide +kernel
theorem dX11_tracksOf_66 : decode cX11_tracksOf 66 = .ok (.iload 5, 2) := by decide +kernel
theorem dX11_tracksOf_65 : decode cX11_tracksOf 65 = .ok (.iload_n 1, 1) := by decide +kernel
theorem dX11_tracksOf_73 : decode cX11_tracksOf 73 = .ok (.invokestatic 186, 3) := by decide +kernel
theorem dX11_tracksOf_76 : decode cX11_tracksOf 76 = .ok (.ifCond .eq 17, 3) := by decide +kernel
theorem dX11_tracksOf_93 : decode cX11_tracksOf 93 = .ok (.iconst (-1), 1) := by decide +kernel
theorem dX11_tracksOf_94 : decode cX11_tracksOf 94 = .ok (.ireturn, 1) := by decide +kernel
theorem dX11_tracksOf_79 : decode cX11_tracksOf 79 = .ok (.aload_n 0, 1) := by decide +kernel
theorem dX11_tracksOf_80 : decode cX11_tracksOf 80 = .ok (.getfield 10, 3) := by decide +kernel
theorem dX11_tracksOf_85 : decode cX11_tracksOf 85 = .ok (.iload 6, 2) := by decide +kernel
theorem dX11_tracksOf_83 : decode cX11_tracksOf 83 = .ok (.iload 7, 2) := by decide +kernel
theorem dX11_tracksOf_87 : decode cX11_tracksOf 87 = .ok (.invokevirtual 175, 3) := by decide +kernel
theorem dX11_tracksOf_90 : decode cX11_tracksOf 90 = .ok (.ifCond .ne 5, 3) := by decide +kernel
theorem dX11_tracksOf_102 : decode cX11_tracksOf 102 = .ok (.istore 5, 2) := by decide +kernel
theorem dX11_tracksOf_101 : decode cX11_tracksOf 101 = .ok (.ior, 1) := by decide +kernel
theorem dX11_tracksOf_100 : decode cX11_tracksOf 100 = .ok (.ishl, 1) := by decide +kernel
theorem dX11_tracksOf_98 : decode cX11_tracksOf 98 = .ok (.iload 7, 2) := by decide +kernel
theorem dX11_tracksOf_97 : decode cX11_tracksOf 97 = .ok (.iconst 1, 1) := by decide +kernel
theorem dX11_tracksOf_95 : decode cX11_tracksOf 95 = .ok (.iload 5, 2) := by decide +kernel
theorem dX11_arePlots_1 : decode cX11_arePlots 1 = .ok (.aload_n 0, 1) := by decide +kernel
theorem dX11_arePlots_0 : decode cX11_arePlots 0 = .ok (.iload_n 1, 1) := by decide +kernel
theorem dX11_arePlots_2 : decode cX11_arePlots 2 = .ok (.getfield 10, 3) := by decide +kernel
theorem dX11_arePlots_5 : decode cX11_arePlots 5 = .ok (.getfield 165, 3) := by decide +kernel
theorem dX11_arePlots_8 : decode cX11_arePlots 8 = .ok (.invokevirtual 168, 3) := by decide +kernel
theorem dX11_arePlots_12 : decode cX11_arePlots 12 = .ok (.ifCond .ne 7, 3) := by decide +kernel
theorem dX11_arePlots_11 : decode cX11_arePlots 11 = .ok (.iushr, 1) := by decide +kernel
theorem dX11_arePlots_16 : decode cX11_arePlots 16 = .ok (.goto 4, 3) := by decide +kernel
theorem dX11_arePlots_15 : decode cX11_arePlots 15 = .ok (.iconst 1, 1) := by decide +kernel
theorem dX11_arePlots_20 : decode cX11_arePlots 20 = .ok (.ireturn, 1) := by decide +kernel
theorem dX11_arePlots_19 : decode cX11_arePlots 19 = .ok (.iconst 0, 1) := by decide +kernel
theorem dX11_isIn_2 : decode cX11_isIn 2 = .ok (.bipush 31, 2) := by decide +kernel
theorem dX11_isIn_1 : decode cX11_isIn 1 = .ok (.iconst 0, 1) := by decide +kernel
theorem dX11_isIn_0 : decode cX11_isIn 0 = .ok (.iload_n 1, 1) := by decide +kernel
theorem dX11_isIn_4 : decode cX11_isIn 4 = .ok (.invokestatic 90, 3) := by decide +kernel
theorem dX11_isIn_7 : decode cX11_isIn 7 = .ok (.ifCond .eq 15, 3) := by decide +kernel
theorem dX11_isIn_22 : decode cX11_isIn 22 = .ok (.iconst 0, 1) := by decide +kernel
theorem dX11_isIn_23 : decode cX11_isIn 23 = .ok (.ireturn, 1) := by decide +kernel
theorem dX11_isIn_15 : decode cX11_isIn 15 = .ok (.ifCond .eq 7, 3) := by decide +kernel
theorem dX11_isIn_14 : decode cX11_isIn 14 = .ok (.iand, 1) := by decide +kernel
theorem dX11_isIn_13 : decode cX11_isIn 13 = .ok (.iconst 1, 1) := by decide +kernel
theorem dX11_isIn_12 : decode cX11_isIn 12 = .ok (.iushr, 1) := by decide +kernel
theorem dX11_isIn_11 : decode cX11_isIn 11 = .ok (.iload_n 1, 1) := by decide +kernel
theorem dX11_isIn_10 : decode cX11_isIn 10 = .ok (.iload_n 0, 1) := by decide +kernel
theorem dX11_isIn_19 : decode cX11_isIn 19 = .ok (.goto 4, 3) := by decide +kernel
theorem dX11_isIn_18 : decode cX11_isIn 18 = .ok (.iconst 1, 1) := by decide +kernel
theorem dX11_isTold_0 : decode cX11_isTold 0 = .ok (.iload_n 0, 1) := by decide +kernel
theorem dX11_isTold_1 : decode cX11_isTold 1 = .ok (.invokestatic 84, 3) := by decide +kernel
theorem dX11_isTold_4 : decode cX11_isTold 4 = .ok (.ifCond .eq 17, 3) := by decide +kernel
theorem dX11_isTold_21 : decode cX11_isTold 21 = .ok (.iconst 0, 1) := by decide +kernel
theorem dX11_isTold_22 : decode cX11_isTold 22 = .ok (.ireturn, 1) := by decide +kernel
theorem dX11_isTold_9 : decode cX11_isTold 9 = .ok (.bipush 9, 2) := by decide +kernel
theorem dX11_isTold_8 : decode cX11_isTold 8 = .ok (.iconst 1, 1) := by decide +kernel
theorem dX11_isTold_7 : decode cX11_isTold 7 = .ok (.iload_n 1, 1) := by decide +kernel
theorem dX11_isTold_11 : decode cX11_isTold 11 = .ok (.invokestatic 90, 3) := by decide +kernel
theorem dX11_isTold_14 : decode cX11_isTold 14 = .ok (.ifCond .eq 7, 3) := by decide +kernel
theorem dX11_isTold_18 : decode cX11_isTold 18 = .ok (.goto 4, 3) := by decide +kernel
theorem dX11_isTold_17 : decode cX11_isTold 17 = .ok (.iconst 1, 1) := by decide +kernel
theorem dX11_flyer_2 : decode cX11_flyer 2 = .ok (.iconst 3, 1) := by decide +kernel
theorem dX11_flyer_1 : decode cX11_flyer 1 = .ok (.iconst 0, 1) := by decide +kernel
theorem dX11_flyer_0 : decode cX11_flyer 0 = .ok (.iload_n 1, 1) := by decide +kernel
theorem dX11_flyer_3 : decode cX11_flyer 3 = .ok (.invokestatic 90, 3) := by decide +kernel
theorem dX11_flyer_6 : decode cX11_flyer 6 = .ok (.ifCond .eq 35, 3) := by decide +kernel
theorem dX11_flyer_42 : decode cX11_flyer 42 = .ok (.iconst 1, 1) := by decide +kernel
theorem dX11_flyer_41 : decode cX11_flyer 41 = .ok (.aload_n 0, 1) := by decide +kernel
theorem dX11_flyer_43 : decode cX11_flyer 43 = .ok (.invokevirtual 94, 3) := by decide +kernel
theorem dX11_flyer_10 : decode cX11_flyer 10 = .ok (.iload 4, 2) := by decide +kernel
theorem dX11_flyer_9 : decode cX11_flyer 9 = .ok (.iload_n 2, 1) := by decide +kernel
theorem dX11_flyer_12 : decode cX11_flyer 12 = .ok (.invokestatic 148, 3) := by decide +kernel
theorem dX11_flyer_46 : decode cX11_flyer 46 = .ok (.ireturn, 1) := by decide +kernel
theorem dX11_flyer_15 : decode cX11_flyer 15 = .ok (.ifCond .eq 26, 3) := by decide +kernel
theorem dX11_flyer_20 : decode cX11_flyer 20 = .ok (.sipush 3999, 3) := by decide +kernel
theorem dX11_flyer_19 : decode cX11_flyer 19 = .ok (.iconst 0, 1) := by decide +kernel
theorem dX11_flyer_18 : decode cX11_flyer 18 = .ok (.iload_n 3, 1) := by decide +kernel
theorem dX11_flyer_23 : decode cX11_flyer 23 = .ok (.invokestatic 90, 3) := by decide +kernel
theorem dX11_flyer_26 : decode cX11_flyer 26 = .ok (.ifCond .eq 15, 3) := by decide +kernel
theorem dX11_flyer_38 : decode cX11_flyer 38 = .ok (.if_icmp .le 9, 3) := by decide +kernel
theorem dX11_flyer_36 : decode cX11_flyer 36 = .ok (.bipush 7, 2) := by decide +kernel
theorem dX11_flyer_35 : decode cX11_flyer 35 = .ok (.irem, 1) := by decide +kernel
theorem dX11_flyer_33 : decode cX11_flyer 33 = .ok (.bipush 10, 2) := by decide +kernel
theorem dX11_flyer_32 : decode cX11_flyer 32 = .ok (.idiv, 1) := by decide +kernel
theorem dX11_flyer_30 : decode cX11_flyer 30 = .ok (.bipush 100, 2) := by decide +kernel
theorem dX11_flyer_29 : decode cX11_flyer 29 = .ok (.iload_n 3, 1) := by decide +kernel
theorem dX11_flyer_47 : decode cX11_flyer 47 = .ok (.aload_n 0, 1) := by decide +kernel
theorem dX11_flyer_48 : decode cX11_flyer 48 = .ok (.getfield 10, 3) := by decide +kernel
theorem dX11_flyer_53 : decode cX11_flyer 53 = .ok (.iload 4, 2) := by decide +kernel
theorem dX11_flyer_52 : decode cX11_flyer 52 = .ok (.iload_n 2, 1) := by decide +kernel
theorem dX11_flyer_51 : decode cX11_flyer 51 = .ok (.iload_n 1, 1) := by decide +kernel
theorem dX11_flyer_55 : decode cX11_flyer 55 = .ok (.invokevirtual 225, 3) := by decide +kernel
theorem dX11_flyer_62 : decode cX11_flyer 62 = .ok (.ifCond .ge 9, 3) := by decide +kernel
theorem dX11_flyer_60 : decode cX11_flyer 60 = .ok (.iload 5, 2) := by decide +kernel
theorem dX11_flyer_58 : decode cX11_flyer 58 = .ok (.istore 5, 2) := by decide +kernel
theorem dX11_flyer_71 : decode cX11_flyer 71 = .ok (.aload_n 0, 1) := by decide +kernel
theorem dX11_flyer_72 : decode cX11_flyer 72 = .ok (.getfield 10, 3) := by decide +kernel
theorem dX11_flyer_75 : decode cX11_flyer 75 = .ok (.getfield 229, 3) := by decide +kernel
theorem dX11_flyer_85 : decode cX11_flyer 85 = .ok (.idiv, 1) := by decide +kernel
theorem dX11_flyer_82 : decode cX11_flyer 82 = .ok (.sipush 1000, 3) := by decide +kernel
theorem dX11_flyer_81 : decode cX11_flyer 81 = .ok (.iload_n 3, 1) := by decide +kernel
theorem dX11_flyer_80 : decode cX11_flyer 80 = .ok (.iconst 3, 1) := by decide +kernel
theorem dX11_flyer_78 : decode cX11_flyer 78 = .ok (.iload 5, 2) := by decide +kernel
theorem dX11_flyer_86 : decode cX11_flyer 86 = .ok (.invokevirtual 106, 3) := by decide +kernel
theorem dX11_flyer_66 : decode cX11_flyer 66 = .ok (.iconst 4, 1) := by decide +kernel
theorem dX11_flyer_65 : decode cX11_flyer 65 = .ok (.aload_n 0, 1) := by decide +kernel
theorem dX11_flyer_67 : decode cX11_flyer 67 = .ok (.invokevirtual 94, 3) := by decide +kernel
theorem dX11_flyer_89 : decode cX11_flyer 89 = .ok (.aload_n 0, 1) := by decide +kernel
theorem dX11_flyer_90 : decode cX11_flyer 90 = .ok (.getfield 10, 3) := by decide +kernel
theorem dX11_flyer_93 : decode cX11_flyer 93 = .ok (.getfield 229, 3) := by decide +kernel
theorem dX11_flyer_105 : decode cX11_flyer 105 = .ok (.irem, 1) := by decide +kernel
theorem dX11_flyer_103 : decode cX11_flyer 103 = .ok (.bipush 10, 2) := by decide +kernel
theorem dX11_flyer_102 : decode cX11_flyer 102 = .ok (.idiv, 1) := by decide +kernel
theorem dX11_flyer_100 : decode cX11_flyer 100 = .ok (.bipush 100, 2) := by decide +kernel
theorem dX11_flyer_99 : decode cX11_flyer 99 = .ok (.iload_n 3, 1) := by decide +kernel
theorem dX11_flyer_98 : decode cX11_flyer 98 = .ok (.iconst 4, 1) := by decide +kernel
theorem dX11_flyer_96 : decode cX11_flyer 96 = .ok (.iload 5, 2) := by decide +kernel
theorem dX11_flyer_106 : decode cX11_flyer 106 = .ok (.invokevirtual 106, 3) := by decide +kernel
theorem dX11_flyer_70 : decode cX11_flyer 70 = .ok (.ireturn, 1) := by decide +kernel
theorem dX11_flyer_109 : decode cX11_flyer 109 = .ok (.aload_n 0, 1) := by decide +kernel
theorem dX11_flyer_110 : decode cX11_flyer 110 = .ok (.getfield 10, 3) := by decide +kernel
theorem dX11_flyer_113 : decode cX11_flyer 113 = .ok (.getfield 229, 3) := by decide +kernel
theorem dX11_flyer_122 : decode cX11_flyer 122 = .ok (.irem, 1) := by decide +kernel
theorem dX11_flyer_120 : decode cX11_flyer 120 = .ok (.bipush 100, 2) := by decide +kernel
theorem dX11_flyer_119 : decode cX11_flyer 119 = .ok (.iload_n 3, 1) := by decide +kernel
theorem dX11_flyer_118 : decode cX11_flyer 118 = .ok (.iconst 2, 1) := by decide +kernel
theorem dX11_flyer_116 : decode cX11_flyer 116 = .ok (.iload 5, 2) := by decide +kernel
theorem dX11_flyer_123 : decode cX11_flyer 123 = .ok (.invokevirtual 106, 3) := by decide +kernel
theorem dX11_flyer_126 : decode cX11_flyer 126 = .ok (.iload 5, 2) := by decide +kernel
theorem dX11_flyer_128 : decode cX11_flyer 128 = .ok (.ireturn, 1) := by decide +kernel
theorem dX11_flight_0 : decode cX11_flight 0 = .ok (.aload_n 0, 1) := by decide +kernel
theorem dX11_flight_1 : decode cX11_flight 1 = .ok (.getfield 10, 3) := by decide +kernel
theorem dX11_flight_4 : decode cX11_flight 4 = .ok (.getfield 132, 3) := by decide +kernel
theorem dX11_flight_7 : decode cX11_flight 7 = .ok (.iload_n 1, 1) := by decide +kernel
theorem dX11_flight_8 : decode cX11_flight 8 = .ok (.invokevirtual 110, 3) := by decide +kernel
theorem dX11_flight_11 : decode cX11_flight 11 = .ok (.ifCond .eq 34, 3) := by decide +kernel
theorem dX11_flight_46 : decode cX11_flight 46 = .ok (.iconst 1, 1) := by decide +kernel
theorem dX11_flight_45 : decode cX11_flight 45 = .ok (.aload_n 0, 1) := by decide +kernel
theorem dX11_flight_47 : decode cX11_flight 47 = .ok (.invokevirtual 94, 3) := by decide +kernel
theorem dX11_flight_16 : decode cX11_flight 16 = .ok (.bipush 99, 2) := by decide +kernel
theorem dX11_flight_15 : decode cX11_flight 15 = .ok (.iconst 0, 1) := by decide +kernel
theorem dX11_flight_14 : decode cX11_flight 14 = .ok (.iload_n 2, 1) := by decide +kernel
theorem dX11_flight_18 : decode cX11_flight 18 = .ok (.invokestatic 90, 3) := by decide +kernel
theorem dX11_flight_50 : decode cX11_flight 50 = .ok (.ireturn, 1) := by decide +kernel
theorem dX11_flight_21 : decode cX11_flight 21 = .ok (.ifCond .eq 24, 3) := by decide +kernel
theorem dX11_flight_26 : decode cX11_flight 26 = .ok (.bipush 99, 2) := by decide +kernel
theorem dX11_flight_25 : decode cX11_flight 25 = .ok (.iconst 0, 1) := by decide +kernel
theorem dX11_flight_24 : decode cX11_flight 24 = .ok (.iload_n 3, 1) := by decide +kernel
theorem dX11_flight_28 : decode cX11_flight 28 = .ok (.invokestatic 90, 3) := by decide +kernel
theorem dX11_flight_31 : decode cX11_flight 31 = .ok (.ifCond .eq 14, 3) := by decide +kernel
theorem dX11_flight_37 : decode cX11_flight 37 = .ok (.bipush 9, 2) := by decide +kernel
theorem dX11_flight_36 : decode cX11_flight 36 = .ok (.iconst 1, 1) := by decide +kernel
theorem dX11_flight_34 : decode cX11_flight 34 = .ok (.iload 4, 2) := by decide +kernel
theorem dX11_flight_39 : decode cX11_flight 39 = .ok (.invokestatic 90, 3) := by decide +kernel
theorem dX11_flight_42 : decode cX11_flight 42 = .ok (.ifCond .ne 9, 3) := by decide +kernel
theorem dX11_flight_51 : decode cX11_flight 51 = .ok (.aload_n 0, 1) := by decide +kernel
theorem dX11_flight_52 : decode cX11_flight 52 = .ok (.getfield 10, 3) := by decide +kernel
theorem dX11_flight_57 : decode cX11_flight 57 = .ok (.ifCond .eq 7, 3) := by decide +kernel
theorem dX11_flight_55 : decode cX11_flight 55 = .ok (.iload 5, 2) := by decide +kernel
theorem dX11_flight_65 : decode cX11_flight 65 = .ok (.aload_n 0, 1) := by decide +kernel
theorem dX11_flight_64 : decode cX11_flight 64 = .ok (.iconst 4, 1) := by decide +kernel
theorem dX11_flight_66 : decode cX11_flight 66 = .ok (.getfield 10, 3) := by decide +kernel
theorem dX11_flight_69 : decode cX11_flight 69 = .ok (.getfield 132, 3) := by decide +kernel
theorem dX11_flight_73 : decode cX11_flight 73 = .ok (.iconst 0, 1) := by decide +kernel
theorem dX11_flight_72 : decode cX11_flight 72 = .ok (.iload_n 1, 1) := by decide +kernel
theorem dX11_flight_74 : decode cX11_flight 74 = .ok (.invokevirtual 141, 3) := by decide +kernel
theorem dX11_flight_61 : decode cX11_flight 61 = .ok (.goto 4, 3) := by decide +kernel
theorem dX11_flight_60 : decode cX11_flight 60 = .ok (.iconst 5, 1) := by decide +kernel
theorem dX11_flight_77 : decode cX11_flight 77 = .ok (.iload 4, 2) := by decide +kernel
theorem dX11_flight_79 : decode cX11_flight 79 = .ok (.invokevirtual 225, 3) := by decide +kernel
theorem dX11_flight_86 : decode cX11_flight 86 = .ok (.ifCond .ge 9, 3) := by decide +kernel
theorem dX11_flight_84 : decode cX11_flight 84 = .ok (.iload 6, 2) := by decide +kernel
theorem dX11_flight_82 : decode cX11_flight 82 = .ok (.istore 6, 2) := by decide +kernel
theorem dX11_flight_95 : decode cX11_flight 95 = .ok (.aload_n 0, 1) := by decide +kernel
theorem dX11_flight_96 : decode cX11_flight 96 = .ok (.getfield 10, 3) := by decide +kernel
theorem dX11_flight_99 : decode cX11_flight 99 = .ok (.getfield 229, 3) := by decide +kernel
theorem dX11_flight_106 : decode cX11_flight 106 = .ok (.iconst 1, 1) := by decide +kernel
theorem dX11_flight_104 : decode cX11_flight 104 = .ok (.bipush 6, 2) := by decide +kernel
theorem dX11_flight_102 : decode cX11_flight 102 = .ok (.iload 6, 2) := by decide +kernel
theorem dX11_flight_107 : decode cX11_flight 107 = .ok (.invokevirtual 106, 3) := by decide +kernel
theorem dX11_flight_90 : decode cX11_flight 90 = .ok (.iconst 4, 1) := by decide +kernel
theorem dX11_flight_89 : decode cX11_flight 89 = .ok (.aload_n 0, 1) := by decide +kernel
theorem dX11_flight_91 : decode cX11_flight 91 = .ok (.invokevirtual 94, 3) := by decide +kernel
theorem dX11_flight_110 : decode cX11_flight 110 = .ok (.aload_n 0, 1) := by decide +kernel
theorem dX11_flight_111 : decode cX11_flight 111 = .ok (.getfield 10, 3) := by decide +kernel
theorem dX11_flight_114 : decode cX11_flight 114 = .ok (.getfield 229, 3) := by decide +kernel
theorem dX11_flight_121 : decode cX11_flight 121 = .ok (.iload_n 1, 1) := by decide +kernel
theorem dX11_flight_119 : decode cX11_flight 119 = .ok (.bipush 11, 2) := by decide +kernel
theorem dX11_flight_117 : decode cX11_flight 117 = .ok (.iload 6, 2) := by decide +kernel
theorem dX11_flight_122 : decode cX11_flight 122 = .ok (.invokevirtual 106, 3) := by decide +kernel
theorem dX11_flight_94 : decode cX11_flight 94 = .ok (.ireturn, 1) := by decide +kernel
theorem dX11_flight_129 : decode cX11_flight 129 = .ok (.iload_n 3, 1) := by decide +kernel
theorem dX11_flight_128 : decode cX11_flight 128 = .ok (.iload_n 2, 1) := by decide +kernel
theorem dX11_flight_126 : decode cX11_flight 126 = .ok (.iload 6, 2) := by decide +kernel
theorem dX11_flight_125 : decode cX11_flight 125 = .ok (.aload_n 0, 1) := by decide +kernel
theorem dX11_flight_130 : decode cX11_flight 130 = .ok (.invokevirtual 232, 3) := by decide +kernel
theorem dX11_flight_133 : decode cX11_flight 133 = .ok (.iload 6, 2) := by decide +kernel
theorem dX11_flight_135 : decode cX11_flight 135 = .ok (.ireturn, 1) := by decide +kernel
theorem dX11_load_0 : decode cX11_load 0 = .ok (.aload_n 0, 1) := by decide +kernel
theorem dX11_load_1 : decode cX11_load 1 = .ok (.getfield 10, 3) := by decide +kernel
theorem dX11_load_4 : decode cX11_load 4 = .ok (.getfield 229, 3) := by decide +kernel
theorem dX11_load_10 : decode cX11_load 10 = .ok (.iload_n 2, 1) := by decide +kernel
theorem dX11_load_8 : decode cX11_load 8 = .ok (.bipush 7, 2) := by decide +kernel
theorem dX11_load_7 : decode cX11_load 7 = .ok (.iload_n 1, 1) := by decide +kernel
theorem dX11_load_11 : decode cX11_load 11 = .ok (.invokevirtual 106, 3) := by decide +kernel
theorem dX11_load_14 : decode cX11_load 14 = .ok (.aload_n 0, 1) := by decide +kernel
theorem dX11_load_15 : decode cX11_load 15 = .ok (.getfield 10, 3) := by decide +kernel
theorem dX11_load_18 : decode cX11_load 18 = .ok (.getfield 229, 3) := by decide +kernel
theorem dX11_load_24 : decode cX11_load 24 = .ok (.iload_n 3, 1) := by decide +kernel
theorem dX11_load_22 : decode cX11_load 22 = .ok (.bipush 8, 2) := by decide +kernel
theorem dX11_load_21 : decode cX11_load 21 = .ok (.iload_n 1, 1) := by decide +kernel
theorem dX11_load_25 : decode cX11_load 25 = .ok (.invokevirtual 106, 3) := by decide +kernel
theorem dX11_load_28 : decode cX11_load 28 = .ok (.return_, 1) := by decide +kernel
theorem dX11_as_0 : decode cX11_as 0 = .ok (.aload_n 0, 1) := by decide +kernel
theorem dX11_as_1 : decode cX11_as 1 = .ok (.getfield 10, 3) := by decide +kernel
theorem dX11_as_4 : decode cX11_as 4 = .ok (.getfield 229, 3) := by decide +kernel
theorem dX11_as_7 : decode cX11_as 7 = .ok (.iload_n 1, 1) := by decide +kernel
theorem dX11_as_8 : decode cX11_as 8 = .ok (.invokevirtual 110, 3) := by decide +kernel
theorem dX11_as_11 : decode cX11_as 11 = .ok (.ifCond .eq 12, 3) := by decide +kernel
theorem dX11_as_24 : decode cX11_as 24 = .ok (.iconst 1, 1) := by decide +kernel
theorem dX11_as_23 : decode cX11_as 23 = .ok (.aload_n 0, 1) := by decide +kernel
theorem dX11_as_25 : decode cX11_as 25 = .ok (.invokevirtual 94, 3) := by decide +kernel
theorem dX11_as_16 : decode cX11_as 16 = .ok (.iconst 5, 1) := by decide +kernel
theorem dX11_as_15 : decode cX11_as 15 = .ok (.iconst 0, 1) := by decide +kernel
theorem dX11_as_14 : decode cX11_as 14 = .ok (.iload_n 2, 1) := by decide +kernel
theorem dX11_as_17 : decode cX11_as 17 = .ok (.invokestatic 90, 3) := by decide +kernel
theorem dX11_as_28 : decode cX11_as 28 = .ok (.ireturn, 1) := by decide +kernel
theorem dX11_as_20 : decode cX11_as 20 = .ok (.ifCond .ne 9, 3) := by decide +kernel
theorem dX11_as_29 : decode cX11_as 29 = .ok (.aload_n 0, 1) := by decide +kernel
theorem dX11_as_30 : decode cX11_as 30 = .ok (.getfield 10, 3) := by decide +kernel
theorem dX11_as_34 : decode cX11_as 34 = .ok (.iload_n 2, 1) := by decide +kernel
theorem dX11_as_33 : decode cX11_as 33 = .ok (.iload_n 1, 1) := by decide +kernel
theorem dX11_as_35 : decode cX11_as 35 = .ok (.invokevirtual 235, 3) := by decide +kernel
theorem dX11_as_38 : decode cX11_as 38 = .ok (.ifCond .eq 18, 3) := by decide +kernel
theorem dX11_as_57 : decode cX11_as 57 = .ok (.iconst 5, 1) := by decide +kernel
theorem dX11_as_56 : decode cX11_as 56 = .ok (.aload_n 0, 1) := by decide +kernel
theorem dX11_as_58 : decode cX11_as 58 = .ok (.invokevirtual 94, 3) := by decide +kernel
theorem dX11_as_41 : decode cX11_as 41 = .ok (.aload_n 0, 1) := by decide +kernel
theorem dX11_as_42 : decode cX11_as 42 = .ok (.getfield 10, 3) := by decide +kernel
theorem dX11_as_45 : decode cX11_as 45 = .ok (.getfield 229, 3) := by decide +kernel
theorem dX11_as_49 : decode cX11_as 49 = .ok (.iconst 5, 1) := by decide +kernel
theorem dX11_as_48 : decode cX11_as 48 = .ok (.iload_n 1, 1) := by decide +kernel
theorem dX11_as_50 : decode cX11_as 50 = .ok (.invokevirtual 141, 3) := by decide +kernel
theorem dX11_as_61 : decode cX11_as 61 = .ok (.ireturn, 1) := by decide +kernel
theorem dX11_as_53 : decode cX11_as 53 = .ok (.goto 8, 3) := by decide +kernel
theorem dX11_flyerIs_0 : decode cX11_flyerIs 0 = .ok (.aload_n 0, 1) := by decide +kernel
theorem dX11_flyerIs_1 : decode cX11_flyerIs 1 = .ok (.getfield 10, 3) := by decide +kernel
theorem dX11_flyerIs_4 : decode cX11_flyerIs 4 = .ok (.getfield 229, 3) := by decide +kernel
theorem dX11_flyerIs_7 : decode cX11_flyerIs 7 = .ok (.iload_n 1, 1) := by decide +kernel
theorem dX11_flyerIs_8 : decode cX11_flyerIs 8 = .ok (.invokevirtual 110, 3) := by decide +kernel
theorem dX11_flyerIs_11 : decode cX11_flyerIs 11 = .ok (.ifCond .eq 13, 3) := by decide +kernel
theorem dX11_flyerIs_25 : decode cX11_flyerIs 25 = .ok (.iconst 1, 1) := by decide +kernel
theorem dX11_flyerIs_24 : decode cX11_flyerIs 24 = .ok (.aload_n 0, 1) := by decide +kernel
theorem dX11_flyerIs_26 : decode cX11_flyerIs 26 = .ok (.invokevirtual 94, 3) := by decide +kernel
theorem dX11_flyerIs_16 : decode cX11_flyerIs 16 = .ok (.bipush 11, 2) := by decide +kernel
theorem dX11_flyerIs_15 : decode cX11_flyerIs 15 = .ok (.iconst 0, 1) := by decide +kernel
theorem dX11_flyerIs_14 : decode cX11_flyerIs 14 = .ok (.iload_n 2, 1) := by decide +kernel
theorem dX11_flyerIs_18 : decode cX11_flyerIs 18 = .ok (.invokestatic 90, 3) := by decide +kernel
theorem dX11_flyerIs_29 : decode cX11_flyerIs 29 = .ok (.ireturn, 1) := by decide +kernel
theorem dX11_flyerIs_21 : decode cX11_flyerIs 21 = .ok (.ifCond .ne 9, 3) := by decide +kernel
theorem dX11_flyerIs_33 : decode cX11_flyerIs 33 = .ok (.if_icmp .ne 20, 3) := by decide +kernel
theorem dX11_flyerIs_31 : decode cX11_flyerIs 31 = .ok (.bipush 11, 2) := by decide +kernel
theorem dX11_flyerIs_30 : decode cX11_flyerIs 30 = .ok (.iload_n 2, 1) := by decide +kernel
theorem dX11_flyerIs_36 : decode cX11_flyerIs 36 = .ok (.aload_n 0, 1) := by decide +kernel
theorem dX11_flyerIs_37 : decode cX11_flyerIs 37 = .ok (.getfield 10, 3) := by decide +kernel
theorem dX11_flyerIs_40 : decode cX11_flyerIs 40 = .ok (.iload_n 1, 1) := by decide +kernel
theorem dX11_flyerIs_41 : decode cX11_flyerIs 41 = .ok (.invokevirtual 238, 3) := by decide +kernel
theorem dX11_flyerIs_53 : decode cX11_flyerIs 53 = .ok (.aload_n 0, 1) := by decide +kernel
theorem dX11_flyerIs_54 : decode cX11_flyerIs 54 = .ok (.getfield 10, 3) := by decide +kernel
theorem dX11_flyerIs_57 : decode cX11_flyerIs 57 = .ok (.getfield 229, 3) := by decide +kernel
theorem dX11_flyerIs_61 : decode cX11_flyerIs 61 = .ok (.iload_n 2, 1) := by decide +kernel
theorem dX11_flyerIs_60 : decode cX11_flyerIs 60 = .ok (.iload_n 1, 1) := by decide +kernel
theorem dX11_flyerIs_62 : decode cX11_flyerIs 62 = .ok (.invokevirtual 141, 3) := by decide +kernel
theorem dX11_flyerIs_44 : decode cX11_flyerIs 44 = .ok (.ifCond .eq 7, 3) := by decide +kernel
theorem dX11_flyerIs_51 : decode cX11_flyerIs 51 = .ok (.iconst 0, 1) := by decide +kernel
theorem dX11_flyerIs_52 : decode cX11_flyerIs 52 = .ok (.ireturn, 1) := by decide +kernel
theorem dX11_flyerIs_48 : decode cX11_flyerIs 48 = .ok (.goto 4, 3) := by decide +kernel
theorem dX11_flyerIs_47 : decode cX11_flyerIs 47 = .ok (.iconst 1, 1) := by decide +kernel
theorem dX11_flyerIs_65 : decode cX11_flyerIs 65 = .ok (.ireturn, 1) := by decide +kernel
theorem dX11_answer_0 : decode cX11_answer 0 = .ok (.aload_n 0, 1) := by decide +kernel
theorem dX11_answer_1 : decode cX11_answer 1 = .ok (.getfield 10, 3) := by decide +kernel
theorem dX11_answer_4 : decode cX11_answer 4 = .ok (.getfield 229, 3) := by decide +kernel
theorem dX11_answer_7 : decode cX11_answer 7 = .ok (.iload_n 1, 1) := by decide +kernel
theorem dX11_answer_8 : decode cX11_answer 8 = .ok (.invokevirtual 110, 3) := by decide +kernel
theorem dX11_answer_11 : decode cX11_answer 11 = .ok (.ifCond .ne 9, 3) := by decide +kernel
theorem dX11_answer_15 : decode cX11_answer 15 = .ok (.iconst 1, 1) := by decide +kernel
theorem dX11_answer_14 : decode cX11_answer 14 = .ok (.aload_n 0, 1) := by decide +kernel
theorem dX11_answer_16 : decode cX11_answer 16 = .ok (.invokevirtual 94, 3) := by decide +kernel
theorem dX11_answer_20 : decode cX11_answer 20 = .ok (.aload_n 0, 1) := by decide +kernel
theorem dX11_answer_21 : decode cX11_answer 21 = .ok (.getfield 10, 3) := by decide +kernel
theorem dX11_answer_25 : decode cX11_answer 25 = .ok (.iconst 3, 1) := by decide +kernel
theorem dX11_answer_24 : decode cX11_answer 24 = .ok (.iload_n 1, 1) := by decide +kernel
theorem dX11_answer_26 : decode cX11_answer 26 = .ok (.invokevirtual 235, 3) := by decide +kernel
theorem dX11_answer_19 : decode cX11_answer 19 = .ok (.ireturn, 1) := by decide +kernel
theorem dX11_answer_29 : decode cX11_answer 29 = .ok (.ifCond .eq 20, 3) := by decide +kernel
theorem dX11_answer_50 : decode cX11_answer 50 = .ok (.iconst 5, 1) := by decide +kernel
theorem dX11_answer_49 : decode cX11_answer 49 = .ok (.aload_n 0, 1) := by decide +kernel
theorem dX11_answer_51 : decode cX11_answer 51 = .ok (.invokevirtual 94, 3) := by decide +kernel
theorem dX11_answer_32 : decode cX11_answer 32 = .ok (.aload_n 0, 1) := by decide +kernel
theorem dX11_answer_33 : decode cX11_answer 33 = .ok (.getfield 10, 3) := by decide +kernel
theorem dX11_answer_36 : decode cX11_answer 36 = .ok (.getfield 229, 3) := by decide +kernel
theorem dX11_answer_42 : decode cX11_answer 42 = .ok (.iload_n 2, 1) := by decide +kernel
theorem dX11_answer_40 : decode cX11_answer 40 = .ok (.bipush 10, 2) := by decide +kernel
theorem dX11_answer_39 : decode cX11_answer 39 = .ok (.iload_n 1, 1) := by decide +kernel
theorem dX11_answer_43 : decode cX11_answer 43 = .ok (.invokestatic 113, 3) := by decide +kernel
theorem dX11_answer_54 : decode cX11_answer 54 = .ok (.ireturn, 1) := by decide +kernel
theorem dX11_answer_46 : decode cX11_answer 46 = .ok (.goto 8, 3) := by decide +kernel
theorem dX11_send_2 : decode cX11_send 2 = .ok (.iload_n 2, 1) := by decide +kernel
theorem dX11_send_1 : decode cX11_send 1 = .ok (.iload_n 1, 1) := by decide +kernel
theorem dX11_send_0 : decode cX11_send 0 = .ok (.aload_n 0, 1) := by decide +kernel
theorem dX11_send_3 : decode cX11_send 3 = .ok (.invokevirtual 241, 3) := by decide +kernel
theorem dX11_send_8 : decode cX11_send 8 = .ok (.ifCond .eq 9, 3) := by decide +kernel
theorem dX11_send_7 : decode cX11_send 7 = .ok (.iload_n 3, 1) := by decide +kernel
theorem dX11_send_6 : decode cX11_send 6 = .ok (.istore_n 3, 1) := by decide +kernel
theorem dX11_send_17 : decode cX11_send 17 = .ok (.aload_n 0, 1) := by decide +kernel
theorem dX11_send_18 : decode cX11_send 18 = .ok (.getfield 10, 3) := by decide +kernel
theorem dX11_send_21 : decode cX11_send 21 = .ok (.iload_n 1, 1) := by decide +kernel
theorem dX11_send_22 : decode cX11_send 22 = .ok (.invokevirtual 244, 3) := by decide +kernel
theorem dX11_send_12 : decode cX11_send 12 = .ok (.iload_n 3, 1) := by decide +kernel
theorem dX11_send_11 : decode cX11_send 11 = .ok (.aload_n 0, 1) := by decide +kernel
theorem dX11_send_13 : decode cX11_send 13 = .ok (.invokevirtual 94, 3) := by decide +kernel
theorem dX11_send_25 : decode cX11_send 25 = .ok (.ifCond .ne 9, 3) := by decide +kernel
theorem dX11_send_29 : decode cX11_send 29 = .ok (.iconst 2, 1) := by decide +kernel
theorem dX11_send_28 : decode cX11_send 28 = .ok (.aload_n 0, 1) := by decide +kernel
theorem dX11_send_30 : decode cX11_send 30 = .ok (.invokevirtual 94, 3) := by decide +kernel
theorem dX11_send_34 : decode cX11_send 34 = .ok (.aload_n 0, 1) := by decide +kernel
theorem dX11_send_35 : decode cX11_send 35 = .ok (.getfield 10, 3) := by decide +kernel
theorem dX11_send_38 : decode cX11_send 38 = .ok (.getfield 229, 3) := by decide +kernel
theorem dX11_send_44 : decode cX11_send 44 = .ok (.iconst 0, 1) := by decide +kernel
theorem dX11_send_42 : decode cX11_send 42 = .ok (.bipush 6, 2) := by decide +kernel
theorem dX11_send_41 : decode cX11_send 41 = .ok (.iload_n 1, 1) := by decide +kernel
theorem dX11_send_45 : decode cX11_send 45 = .ok (.invokevirtual 106, 3) := by decide +kernel
theorem dX11_send_16 : decode cX11_send 16 = .ok (.ireturn, 1) := by decide +kernel
theorem dX11_send_33 : decode cX11_send 33 = .ok (.ireturn, 1) := by decide +kernel
theorem dX11_send_48 : decode cX11_send 48 = .ok (.aload_n 0, 1) := by decide +kernel
theorem dX11_send_49 : decode cX11_send 49 = .ok (.getfield 10, 3) := by decide +kernel
theorem dX11_send_52 : decode cX11_send 52 = .ok (.getfield 229, 3) := by decide +kernel
theorem dX11_send_58 : decode cX11_send 58 = .ok (.iload_n 2, 1) := by decide +kernel
theorem dX11_send_56 : decode cX11_send 56 = .ok (.bipush 9, 2) := by decide +kernel
theorem dX11_send_55 : decode cX11_send 55 = .ok (.iload_n 1, 1) := by decide +kernel
theorem dX11_send_59 : decode cX11_send 59 = .ok (.invokevirtual 106, 3) := by decide +kernel
theorem dX11_send_62 : decode cX11_send 62 = .ok (.iconst 1, 1) := by decide +kernel
theorem dX11_send_63 : decode cX11_send 63 = .ok (.ireturn, 1) := by decide +kernel
theorem dX11_notSendable_0 : decode cX11_notSendable 0 = .ok (.aload_n 0, 1) := by decide +kernel
theorem dX11_notSendable_1 : decode cX11_notSendable 1 = .ok (.getfield 10, 3) := by decide +kernel
theorem dX11_notSendable_4 : decode cX11_notSendable 4 = .ok (.getfield 229, 3) := by decide +kernel
theorem dX11_notSendable_7 : decode cX11_notSendable 7 = .ok (.iload_n 1, 1) := by decide +kernel
theorem dX11_notSendable_8 : decode cX11_notSendable 8 = .ok (.invokevirtual 110, 3) := by decide +kernel
theorem dX11_notSendable_11 : decode cX11_notSendable 11 = .ok (.ifCond .eq 17, 3) := by decide +kernel
theorem dX11_notSendable_28 : decode cX11_notSendable 28 = .ok (.iconst 1, 1) := by decide +kernel
theorem dX11_notSendable_29 : decode cX11_notSendable 29 = .ok (.ireturn, 1) := by decide +kernel
theorem dX11_notSendable_14 : decode cX11_notSendable 14 = .ok (.aload_n 0, 1) := by decide +kernel
theorem dX11_notSendable_15 : decode cX11_notSendable 15 = .ok (.getfield 10, 3) := by decide +kernel
theorem dX11_notSendable_18 : decode cX11_notSendable 18 = .ok (.getfield 229, 3) := by decide +kernel
theorem dX11_notSendable_21 : decode cX11_notSendable 21 = .ok (.iload_n 2, 1) := by decide +kernel
theorem dX11_notSendable_22 : decode cX11_notSendable 22 = .ok (.invokevirtual 110, 3) := by decide +kernel
theorem dX11_notSendable_25 : decode cX11_notSendable 25 = .ok (.ifCond .ne 5, 3) := by decide +kernel
theorem dX11_notSendable_30 : decode cX11_notSendable 30 = .ok (.aload_n 0, 1) := by decide +kernel
theorem dX11_notSendable_31 : decode cX11_notSendable 31 = .ok (.getfield 10, 3) := by decide +kernel
theorem dX11_notSendable_35 : decode cX11_notSendable 35 = .ok (.iconst 4, 1) := by decide +kernel
theorem dX11_notSendable_34 : decode cX11_notSendable 34 = .ok (.iload_n 1, 1) := by decide +kernel
theorem dX11_notSendable_36 : decode cX11_notSendable 36 = .ok (.invokevirtual 235, 3) := by decide +kernel
theorem dX11_notSendable_39 : decode cX11_notSendable 39 = .ok (.ifCond .eq 15, 3) := by decide +kernel
theorem dX11_notSendable_54 : decode cX11_notSendable 54 = .ok (.iconst 5, 1) := by decide +kernel
theorem dX11_notSendable_55 : decode cX11_notSendable 55 = .ok (.ireturn, 1) := by decide +kernel
theorem dX11_notSendable_42 : decode cX11_notSendable 42 = .ok (.aload_n 0, 1) := by decide +kernel
theorem dX11_notSendable_43 : decode cX11_notSendable 43 = .ok (.getfield 10, 3) := by decide +kernel
theorem dX11_notSendable_47 : decode cX11_notSendable 47 = .ok (.iconst 4, 1) := by decide +kernel
theorem dX11_notSendable_46 : decode cX11_notSendable 46 = .ok (.iload_n 2, 1) := by decide +kernel
theorem dX11_notSendable_48 : decode cX11_notSendable 48 = .ok (.invokevirtual 235, 3) := by decide +kernel
theorem dX11_notSendable_51 : decode cX11_notSendable 51 = .ok (.ifCond .eq 5, 3) := by decide +kernel
theorem dX11_notSendable_56 : decode cX11_notSendable 56 = .ok (.aload_n 0, 1) := by decide +kernel
theorem dX11_notSendable_57 : decode cX11_notSendable 57 = .ok (.getfield 10, 3) := by decide +kernel
theorem dX11_notSendable_61 : decode cX11_notSendable 61 = .ok (.iconst 2, 1) := by decide +kernel
theorem dX11_notSendable_60 : decode cX11_notSendable 60 = .ok (.iload_n 1, 1) := by decide +kernel
theorem dX11_notSendable_62 : decode cX11_notSendable 62 = .ok (.invokevirtual 247, 3) := by decide +kernel
theorem dX11_notSendable_65 : decode cX11_notSendable 65 = .ok (.ifCond .ne 15, 3) := by decide +kernel
theorem dX11_notSendable_68 : decode cX11_notSendable 68 = .ok (.aload_n 0, 1) := by decide +kernel
theorem dX11_notSendable_69 : decode cX11_notSendable 69 = .ok (.getfield 10, 3) := by decide +kernel
theorem dX11_notSendable_73 : decode cX11_notSendable 73 = .ok (.iconst 0, 1) := by decide +kernel
theorem dX11_notSendable_72 : decode cX11_notSendable 72 = .ok (.iload_n 2, 1) := by decide +kernel
theorem dX11_notSendable_74 : decode cX11_notSendable 74 = .ok (.invokevirtual 247, 3) := by decide +kernel
theorem dX11_notSendable_81 : decode cX11_notSendable 81 = .ok (.goto 4, 3) := by decide +kernel
theorem dX11_notSendable_80 : decode cX11_notSendable 80 = .ok (.iconst 3, 1) := by decide +kernel
theorem dX11_notSendable_85 : decode cX11_notSendable 85 = .ok (.ireturn, 1) := by decide +kernel
theorem dX11_notSendable_77 : decode cX11_notSendable 77 = .ok (.ifCond .ne 7, 3) := by decide +kernel
theorem dX11_notSendable_84 : decode cX11_notSendable 84 = .ok (.iconst 0, 1) := by decide +kernel
theorem dX11_back_0 : decode cX11_back 0 = .ok (.aload_n 0, 1) := by decide +kernel
theorem dX11_back_1 : decode cX11_back 1 = .ok (.getfield 10, 3) := by decide +kernel
theorem dX11_back_4 : decode cX11_back 4 = .ok (.getfield 229, 3) := by decide +kernel
theorem dX11_back_7 : decode cX11_back 7 = .ok (.iload_n 1, 1) := by decide +kernel
theorem dX11_back_8 : decode cX11_back 8 = .ok (.invokevirtual 110, 3) := by decide +kernel
theorem dX11_back_11 : decode cX11_back 11 = .ok (.ifCond .ne 9, 3) := by decide +kernel
theorem dX11_back_15 : decode cX11_back 15 = .ok (.iconst 1, 1) := by decide +kernel
theorem dX11_back_14 : decode cX11_back 14 = .ok (.aload_n 0, 1) := by decide +kernel
theorem dX11_back_16 : decode cX11_back 16 = .ok (.invokevirtual 94, 3) := by decide +kernel
theorem dX11_back_20 : decode cX11_back 20 = .ok (.aload_n 0, 1) := by decide +kernel
theorem dX11_back_21 : decode cX11_back 21 = .ok (.getfield 10, 3) := by decide +kernel
theorem dX11_back_25 : decode cX11_back 25 = .ok (.iconst 4, 1) := by decide +kernel
theorem dX11_back_24 : decode cX11_back 24 = .ok (.iload_n 1, 1) := by decide +kernel
theorem dX11_back_26 : decode cX11_back 26 = .ok (.invokevirtual 235, 3) := by decide +kernel
theorem dX11_back_19 : decode cX11_back 19 = .ok (.ireturn, 1) := by decide +kernel
theorem dX11_back_29 : decode cX11_back 29 = .ok (.ifCond .ne 9, 3) := by decide +kernel
theorem dX11_back_33 : decode cX11_back 33 = .ok (.iconst 5, 1) := by decide +kernel
theorem dX11_back_32 : decode cX11_back 32 = .ok (.aload_n 0, 1) := by decide +kernel
theorem dX11_back_34 : decode cX11_back 34 = .ok (.invokevirtual 94, 3) := by decide +kernel
theorem dX11_back_38 : decode cX11_back 38 = .ok (.aload_n 0, 1) := by decide +kernel
theorem dX11_back_39 : decode cX11_back 39 = .ok (.getfield 10, 3) := by decide +kernel
theorem dX11_back_43 : decode cX11_back 43 = .ok (.iconst 0, 1) := by decide +kernel
theorem dX11_back_42 : decode cX11_back 42 = .ok (.iload_n 1, 1) := by decide +kernel
theorem dX11_back_44 : decode cX11_back 44 = .ok (.invokevirtual 247, 3) := by decide +kernel
theorem dX11_back_37 : decode cX11_back 37 = .ok (.ireturn, 1) := by decide +kernel
theorem dX11_back_47 : decode cX11_back 47 = .ok (.ifCond .ne 9, 3) := by decide +kernel
theorem dX11_back_51 : decode cX11_back 51 = .ok (.iconst 3, 1) := by decide +kernel
theorem dX11_back_50 : decode cX11_back 50 = .ok (.aload_n 0, 1) := by decide +kernel
theorem dX11_back_52 : decode cX11_back 52 = .ok (.invokevirtual 94, 3) := by decide +kernel
theorem dX11_back_56 : decode cX11_back 56 = .ok (.aload_n 0, 1) := by decide +kernel
theorem dX11_back_57 : decode cX11_back 57 = .ok (.getfield 10, 3) := by decide +kernel
theorem dX11_back_60 : decode cX11_back 60 = .ok (.getfield 229, 3) := by decide +kernel
theorem dX11_back_64 : decode cX11_back 64 = .ok (.bipush 9, 2) := by decide +kernel
theorem dX11_back_63 : decode cX11_back 63 = .ok (.iload_n 1, 1) := by decide +kernel
theorem dX11_back_66 : decode cX11_back 66 = .ok (.invokevirtual 141, 3) := by decide +kernel
theorem dX11_back_55 : decode cX11_back 55 = .ok (.ireturn, 1) := by decide +kernel
theorem dX11_back_70 : decode cX11_back 70 = .ok (.aload_n 0, 1) := by decide +kernel
theorem dX11_back_69 : decode cX11_back 69 = .ok (.istore_n 2, 1) := by decide +kernel
theorem dX11_back_71 : decode cX11_back 71 = .ok (.getfield 10, 3) := by decide +kernel
theorem dX11_back_74 : decode cX11_back 74 = .ok (.getfield 229, 3) := by decide +kernel
theorem dX11_back_80 : decode cX11_back 80 = .ok (.iconst (-1), 1) := by decide +kernel
theorem dX11_back_78 : decode cX11_back 78 = .ok (.bipush 9, 2) := by decide +kernel
theorem dX11_back_77 : decode cX11_back 77 = .ok (.iload_n 1, 1) := by decide +kernel
theorem dX11_back_81 : decode cX11_back 81 = .ok (.invokevirtual 106, 3) := by decide +kernel
theorem dX11_back_85 : decode cX11_back 85 = .ok (.ifCond .lt 7, 3) := by decide +kernel
theorem dX11_back_84 : decode cX11_back 84 = .ok (.iload_n 2, 1) := by decide +kernel
theorem dX11_back_92 : decode cX11_back 92 = .ok (.iconst 0, 1) := by decide +kernel
theorem dX11_back_93 : decode cX11_back 93 = .ok (.ireturn, 1) := by decide +kernel
theorem dX11_back_89 : decode cX11_back 89 = .ok (.goto 4, 3) := by decide +kernel
theorem dX11_back_88 : decode cX11_back 88 = .ok (.iconst 1, 1) := by decide +kernel
theorem dX11_fill_0 : decode cX11_fill 0 = .ok (.aload_n 0, 1) := by decide +kernel
theorem dX11_fill_1 : decode cX11_fill 1 = .ok (.getfield 10, 3) := by decide +kernel
theorem dX11_fill_4 : decode cX11_fill 4 = .ok (.getfield 229, 3) := by decide +kernel
theorem dX11_fill_7 : decode cX11_fill 7 = .ok (.iload_n 1, 1) := by decide +kernel
theorem dX11_fill_8 : decode cX11_fill 8 = .ok (.invokevirtual 110, 3) := by decide +kernel
theorem dX11_fill_11 : decode cX11_fill 11 = .ok (.ifCond .eq 23, 3) := by decide +kernel
theorem dX11_fill_35 : decode cX11_fill 35 = .ok (.iconst 1, 1) := by decide +kernel
theorem dX11_fill_34 : decode cX11_fill 34 = .ok (.aload_n 0, 1) := by decide +kernel
theorem dX11_fill_36 : decode cX11_fill 36 = .ok (.invokevirtual 94, 3) := by decide +kernel
theorem dX11_fill_16 : decode cX11_fill 16 = .ok (.bipush 99, 2) := by decide +kernel
theorem dX11_fill_15 : decode cX11_fill 15 = .ok (.iconst 0, 1) := by decide +kernel
theorem dX11_fill_14 : decode cX11_fill 14 = .ok (.iload_n 2, 1) := by decide +kernel
theorem dX11_fill_18 : decode cX11_fill 18 = .ok (.invokestatic 90, 3) := by decide +kernel
theorem dX11_fill_39 : decode cX11_fill 39 = .ok (.ireturn, 1) := by decide +kernel
theorem dX11_fill_21 : decode cX11_fill 21 = .ok (.ifCond .eq 13, 3) := by decide +kernel
theorem dX11_fill_26 : decode cX11_fill 26 = .ok (.bipush 99, 2) := by decide +kernel
theorem dX11_fill_25 : decode cX11_fill 25 = .ok (.iconst 0, 1) := by decide +kernel
theorem dX11_fill_24 : decode cX11_fill 24 = .ok (.iload_n 3, 1) := by decide +kernel
theorem dX11_fill_28 : decode cX11_fill 28 = .ok (.invokestatic 90, 3) := by decide +kernel
theorem dX11_fill_31 : decode cX11_fill 31 = .ok (.ifCond .ne 9, 3) := by decide +kernel
theorem dX11_fill_40 : decode cX11_fill 40 = .ok (.aload_n 0, 1) := by decide +kernel
theorem dX11_fill_41 : decode cX11_fill 41 = .ok (.getfield 10, 3) := by decide +kernel
theorem dX11_fill_45 : decode cX11_fill 45 = .ok (.iconst 4, 1) := by decide +kernel
theorem dX11_fill_44 : decode cX11_fill 44 = .ok (.iload_n 1, 1) := by decide +kernel
theorem dX11_fill_46 : decode cX11_fill 46 = .ok (.invokevirtual 235, 3) := by decide +kernel
theorem dX11_fill_49 : decode cX11_fill 49 = .ok (.ifCond .ne 9, 3) := by decide +kernel
theorem dX11_fill_53 : decode cX11_fill 53 = .ok (.iconst 5, 1) := by decide +kernel
theorem dX11_fill_52 : decode cX11_fill 52 = .ok (.aload_n 0, 1) := by decide +kernel
theorem dX11_fill_54 : decode cX11_fill 54 = .ok (.invokevirtual 94, 3) := by decide +kernel
theorem dX11_fill_58 : decode cX11_fill 58 = .ok (.aload_n 0, 1) := by decide +kernel
theorem dX11_fill_59 : decode cX11_fill 59 = .ok (.getfield 10, 3) := by decide +kernel
theorem dX11_fill_63 : decode cX11_fill 63 = .ok (.iconst 1, 1) := by decide +kernel
theorem dX11_fill_62 : decode cX11_fill 62 = .ok (.iload_n 1, 1) := by decide +kernel
theorem dX11_fill_64 : decode cX11_fill 64 = .ok (.invokevirtual 247, 3) := by decide +kernel
theorem dX11_fill_57 : decode cX11_fill 57 = .ok (.ireturn, 1) := by decide +kernel
theorem dX11_fill_67 : decode cX11_fill 67 = .ok (.ifCond .ne 9, 3) := by decide +kernel
theorem dX11_fill_71 : decode cX11_fill 71 = .ok (.iconst 3, 1) := by decide +kernel
theorem dX11_fill_70 : decode cX11_fill 70 = .ok (.aload_n 0, 1) := by decide +kernel
theorem dX11_fill_72 : decode cX11_fill 72 = .ok (.invokevirtual 94, 3) := by decide +kernel
theorem dX11_fill_79 : decode cX11_fill 79 = .ok (.iload_n 3, 1) := by decide +kernel
theorem dX11_fill_78 : decode cX11_fill 78 = .ok (.iload_n 2, 1) := by decide +kernel
theorem dX11_fill_77 : decode cX11_fill 77 = .ok (.iload_n 1, 1) := by decide +kernel
theorem dX11_fill_76 : decode cX11_fill 76 = .ok (.aload_n 0, 1) := by decide +kernel
theorem dX11_fill_80 : decode cX11_fill 80 = .ok (.invokevirtual 232, 3) := by decide +kernel
theorem dX11_fill_75 : decode cX11_fill 75 = .ok (.ireturn, 1) := by decide +kernel
theorem dX11_fill_83 : decode cX11_fill 83 = .ok (.iconst 1, 1) := by decide +kernel
theorem dX11_fill_84 : decode cX11_fill 84 = .ok (.ireturn, 1) := by decide +kernel
theorem dX11_feed_2 : decode cX11_feed 2 = .ok (.bipush 8, 2) := by decide +kernel
theorem dX11_feed_1 : decode cX11_feed 1 = .ok (.iconst 1, 1) := by decide +kernel
theorem dX11_feed_0 : decode cX11_feed 0 = .ok (.iload_n 3, 1) := by decide +kernel
theorem dX11_feed_4 : decode cX11_feed 4 = .ok (.invokestatic 90, 3) := by decide +kernel
theorem dX11_feed_7 : decode cX11_feed 7 = .ok (.ifCond .ne 9, 3) := by decide +kernel
theorem dX11_feed_11 : decode cX11_feed 11 = .ok (.iconst 1, 1) := by decide +kernel
theorem dX11_feed_10 : decode cX11_feed 10 = .ok (.aload_n 0, 1) := by decide +kernel
theorem dX11_feed_12 : decode cX11_feed 12 = .ok (.invokevirtual 94, 3) := by decide +kernel
theorem dX11_feed_16 : decode cX11_feed 16 = .ok (.aload_n 0, 1) := by decide +kernel
theorem dX11_feed_17 : decode cX11_feed 17 = .ok (.getfield 10, 3) := by decide +kernel
theorem dX11_feed_20 : decode cX11_feed 20 = .ok (.getfield 24, 3) := by decide +kernel
theorem dX11_feed_23 : decode cX11_feed 23 = .ok (.getfield 28, 3) := by decide +kernel
theorem dX11_feed_28 : decode cX11_feed 28 = .ok (.aload 4, 2) := by decide +kernel
theorem dX11_feed_26 : decode cX11_feed 26 = .ok (.astore 4, 2) := by decide +kernel
theorem dX11_feed_30 : decode cX11_feed 30 = .ok (.invokevirtual 168, 3) := by decide +kernel
theorem dX11_feed_15 : decode cX11_feed 15 = .ok (.ireturn, 1) := by decide +kernel
theorem dX11_feed_37 : decode cX11_feed 37 = .ok (.if_icmp .le 9, 3) := by decide +kernel
theorem dX11_feed_35 : decode cX11_feed 35 = .ok (.bipush 50, 2) := by decide +kernel
theorem dX11_feed_34 : decode cX11_feed 34 = .ok (.iadd, 1) := by decide +kernel
theorem dX11_feed_33 : decode cX11_feed 33 = .ok (.iload_n 3, 1) := by decide +kernel
theorem dX11_feed_47 : decode cX11_feed 47 = .ok (.istore 5, 2) := by decide +kernel
theorem dX11_feed_46 : decode cX11_feed 46 = .ok (.iconst 0, 1) := by decide +kernel
theorem dX11_feed_41 : decode cX11_feed 41 = .ok (.iconst 4, 1) := by decide +kernel
theorem dX11_feed_40 : decode cX11_feed 40 = .ok (.aload_n 0, 1) := by decide +kernel
theorem dX11_feed_42 : decode cX11_feed 42 = .ok (.invokevirtual 94, 3) := by decide +kernel
theorem dX11_feed_52 : decode cX11_feed 52 = .ok (.if_icmp .ge 27, 3) := by decide +kernel
theorem dX11_feed_51 : decode cX11_feed 51 = .ok (.iload_n 3, 1) := by decide +kernel
theorem dX11_feed_49 : decode cX11_feed 49 = .ok (.iload 5, 2) := by decide +kernel
theorem dX11_feed_79 : decode cX11_feed 79 = .ok (.aload 4, 2) := by decide +kernel
theorem dX11_feed_81 : decode cX11_feed 81 = .ok (.invokevirtual 168, 3) := by decide +kernel
theorem dX11_feed_68 : decode cX11_feed 68 = .ok (.iand, 1) := by decide +kernel
theorem dX11_feed_65 : decode cX11_feed 65 = .ok (.sipush 255, 3) := by decide +kernel
theorem dX11_feed_64 : decode cX11_feed 64 = .ok (.l2i, 1) := by decide +kernel
theorem dX11_feed_63 : decode cX11_feed 63 = .ok (.lushr, 1) := by decide +kernel
theorem dX11_feed_62 : decode cX11_feed 62 = .ok (.imul, 1) := by decide +kernel
theorem dX11_feed_60 : decode cX11_feed 60 = .ok (.iload 5, 2) := by decide +kernel
theorem dX11_feed_58 : decode cX11_feed 58 = .ok (.bipush 8, 2) := by decide +kernel
theorem dX11_feed_57 : decode cX11_feed 57 = .ok (.lload_n 1, 1) := by decide +kernel
theorem dX11_feed_55 : decode cX11_feed 55 = .ok (.aload 4, 2) := by decide +kernel
theorem dX11_feed_69 : decode cX11_feed 69 = .ok (.invokevirtual 101, 3) := by decide +kernel
theorem dX11_feed_45 : decode cX11_feed 45 = .ok (.ireturn, 1) := by decide +kernel
theorem dX11_feed_84 : decode cX11_feed 84 = .ok (.ireturn, 1) := by decide +kernel
theorem dX11_feed_76 : decode cX11_feed 76 = .ok (.goto (-27), 3) := by decide +kernel
theorem dX11_feed_73 : decode cX11_feed 73 = .ok (.iinc 5 1, 3) := by decide +kernel
theorem dX11_feed_72 : decode cX11_feed 72 = .ok (.pop, 1) := by decide +kernel
theorem dX11_rule_2 : decode cX11_rule 2 = .ok (.iconst 2, 1) := by decide +kernel
theorem dX11_rule_1 : decode cX11_rule 1 = .ok (.iconst 0, 1) := by decide +kernel
theorem dX11_rule_0 : decode cX11_rule 0 = .ok (.iload_n 1, 1) := by decide +kernel
theorem dX11_rule_3 : decode cX11_rule 3 = .ok (.invokestatic 90, 3) := by decide +kernel
theorem dX11_rule_6 : decode cX11_rule 6 = .ok (.ifCond .eq 14, 3) := by decide +kernel
theorem dX11_rule_21 : decode cX11_rule 21 = .ok (.iconst 1, 1) := by decide +kernel
theorem dX11_rule_20 : decode cX11_rule 20 = .ok (.aload_n 0, 1) := by decide +kernel
theorem dX11_rule_22 : decode cX11_rule 22 = .ok (.invokevirtual 94, 3) := by decide +kernel
theorem dX11_rule_11 : decode cX11_rule 11 = .ok (.sipush 1000, 3) := by decide +kernel
theorem dX11_rule_10 : decode cX11_rule 10 = .ok (.iconst 0, 1) := by decide +kernel
theorem dX11_rule_9 : decode cX11_rule 9 = .ok (.iload_n 2, 1) := by decide +kernel
theorem dX11_rule_14 : decode cX11_rule 14 = .ok (.invokestatic 90, 3) := by decide +kernel
theorem dX11_rule_25 : decode cX11_rule 25 = .ok (.ireturn, 1) := by decide +kernel
theorem dX11_rule_17 : decode cX11_rule 17 = .ok (.ifCond .ne 9, 3) := by decide +kernel
theorem dX11_rule_26 : decode cX11_rule 26 = .ok (.aload_n 0, 1) := by decide +kernel
theorem dX11_rule_27 : decode cX11_rule 27 = .ok (.getfield 10, 3) := by decide +kernel
theorem dX11_rule_30 : decode cX11_rule 30 = .ok (.getfield 24, 3) := by decide +kernel
theorem dX11_rule_33 : decode cX11_rule 33 = .ok (.getfield 250, 3) := by decide +kernel
theorem dX11_rule_36 : decode cX11_rule 36 = .ok (.invokevirtual 253, 3) := by decide +kernel
theorem dX11_rule_39 : decode cX11_rule 39 = .ok (.ifCond .eq 9, 3) := by decide +kernel
theorem dX11_rule_48 : decode cX11_rule 48 = .ok (.aload_n 0, 1) := by decide +kernel
theorem dX11_rule_49 : decode cX11_rule 49 = .ok (.getfield 37, 3) := by decide +kernel
theorem dX11_rule_52 : decode cX11_rule 52 = .ok (.iload_n 1, 1) := by decide +kernel
theorem dX11_rule_53 : decode cX11_rule 53 = .ok (.invokevirtual 257, 3) := by decide +kernel
theorem dX11_rule_43 : decode cX11_rule 43 = .ok (.iconst 4, 1) := by decide +kernel
theorem dX11_rule_42 : decode cX11_rule 42 = .ok (.aload_n 0, 1) := by decide +kernel
theorem dX11_rule_44 : decode cX11_rule 44 = .ok (.invokevirtual 94, 3) := by decide +kernel
theorem dX11_rule_57 : decode cX11_rule 57 = .ok (.aload_n 0, 1) := by decide +kernel
theorem dX11_rule_56 : decode cX11_rule 56 = .ok (.istore_n 3, 1) := by decide +kernel
theorem dX11_rule_58 : decode cX11_rule 58 = .ok (.getfield 10, 3) := by decide +kernel
theorem dX11_rule_61 : decode cX11_rule 61 = .ok (.getfield 24, 3) := by decide +kernel
theorem dX11_rule_64 : decode cX11_rule 64 = .ok (.getfield 28, 3) := by decide +kernel
theorem dX11_rule_67 : decode cX11_rule 67 = .ok (.invokevirtual 260, 3) := by decide +kernel
theorem dX11_rule_47 : decode cX11_rule 47 = .ok (.ireturn, 1) := by decide +kernel
theorem dX11_rule_71 : decode cX11_rule 71 = .ok (.ifCond .eq 22, 3) := by decide +kernel
theorem dX11_rule_70 : decode cX11_rule 70 = .ok (.iload_n 3, 1) := by decide +kernel
theorem dX11_rule_95 : decode cX11_rule 95 = .ok (.aload_n 0, 1) := by decide +kernel
theorem dX11_rule_93 : decode cX11_rule 93 = .ok (.bipush (-10), 2) := by decide +kernel
theorem dX11_rule_96 : decode cX11_rule 96 = .ok (.getfield 37, 3) := by decide +kernel
theorem dX11_rule_99 : decode cX11_rule 99 = .ok (.invokevirtual 267, 3) := by decide +kernel
theorem dX11_rule_74 : decode cX11_rule 74 = .ok (.aload_n 0, 1) := by decide +kernel
theorem dX11_rule_75 : decode cX11_rule 75 = .ok (.getfield 10, 3) := by decide +kernel
theorem dX11_rule_78 : decode cX11_rule 78 = .ok (.getfield 24, 3) := by decide +kernel
theorem dX11_rule_83 : decode cX11_rule 83 = .ok (.aload_n 0, 1) := by decide +kernel
theorem dX11_rule_82 : decode cX11_rule 82 = .ok (.iload_n 2, 1) := by decide +kernel
theorem dX11_rule_81 : decode cX11_rule 81 = .ok (.iload_n 1, 1) := by decide +kernel
theorem dX11_rule_84 : decode cX11_rule 84 = .ok (.getfield 37, 3) := by decide +kernel
theorem dX11_rule_87 : decode cX11_rule 87 = .ok (.invokevirtual 263, 3) := by decide +kernel
theorem dX11_rule_102 : decode cX11_rule 102 = .ok (.isub, 1) := by decide +kernel
theorem dX11_rule_103 : decode cX11_rule 103 = .ok (.ireturn, 1) := by decide +kernel
theorem dX11_rule_90 : decode cX11_rule 90 = .ok (.goto 13, 3) := by decide +kernel
theorem dX11_force_2 : decode cX11_force 2 = .ok (.iconst 2, 1) := by decide +kernel
theorem dX11_force_1 : decode cX11_force 1 = .ok (.iconst 0, 1) := by decide +kernel
theorem dX11_force_0 : decode cX11_force 0 = .ok (.iload_n 1, 1) := by decide +kernel
theorem dX11_force_3 : decode cX11_force 3 = .ok (.invokestatic 90, 3) := by decide +kernel
theorem dX11_force_6 : decode cX11_force 6 = .ok (.ifCond .eq 14, 3) := by decide +kernel
theorem dX11_force_21 : decode cX11_force 21 = .ok (.iconst 1, 1) := by decide +kernel
theorem dX11_force_20 : decode cX11_force 20 = .ok (.aload_n 0, 1) := by decide +kernel
theorem dX11_force_22 : decode cX11_force 22 = .ok (.invokevirtual 94, 3) := by decide +kernel
theorem dX11_force_11 : decode cX11_force 11 = .ok (.sipush 1000, 3) := by decide +kernel
theorem dX11_force_10 : decode cX11_force 10 = .ok (.iconst 0, 1) := by decide +kernel
theorem dX11_force_9 : decode cX11_force 9 = .ok (.iload_n 2, 1) := by decide +kernel
theorem dX11_force_14 : decode cX11_force 14 = .ok (.invokestatic 90, 3) := by decide +kernel
theorem dX11_force_25 : decode cX11_force 25 = .ok (.ireturn, 1) := by decide +kernel
theorem dX11_force_17 : decode cX11_force 17 = .ok (.ifCond .ne 9, 3) := by decide +kernel
theorem dX11_force_26 : decode cX11_force 26 = .ok (.aload_n 0, 1) := by decide +kernel
theorem dX11_force_27 : decode cX11_force 27 = .ok (.getfield 10, 3) := by decide +kernel
theorem dX11_force_30 : decode cX11_force 30 = .ok (.getfield 24, 3) := by decide +kernel
theorem dX11_force_34 : decode cX11_force 34 = .ok (.iload_n 2, 1) := by decide +kernel
theorem dX11_force_33 : decode cX11_force 33 = .ok (.iload_n 1, 1) := by decide +kernel
theorem dX11_force_35 : decode cX11_force 35 = .ok (.invokevirtual 270, 3) := by decide +kernel
theorem dX11_force_40 : decode cX11_force 40 = .ok (.ifCond .ge 11, 3) := by decide +kernel
theorem dX11_force_39 : decode cX11_force 39 = .ok (.iload_n 3, 1) := by decide +kernel
theorem dX11_force_38 : decode cX11_force 38 = .ok (.istore_n 3, 1) := by decide +kernel
theorem dX11_force_51 : decode cX11_force 51 = .ok (.iload_n 3, 1) := by decide +kernel
theorem dX11_force_52 : decode cX11_force 52 = .ok (.ireturn, 1) := by decide +kernel
theorem dX11_force_44 : decode cX11_force 44 = .ok (.iconst 2, 1) := by decide +kernel
theorem dX11_force_43 : decode cX11_force 43 = .ok (.aload_n 0, 1) := by decide +kernel
theorem dX11_force_45 : decode cX11_force 45 = .ok (.invokevirtual 94, 3) := by decide +kernel
theorem dX11_force_48 : decode cX11_force 48 = .ok (.goto 4, 3) := by decide +kernel
theorem dX11_says_0 : decode cX11_says 0 = .ok (.aload_n 0, 1) := by decide +kernel
theorem dX11_says_1 : decode cX11_says 1 = .ok (.getfield 10, 3) := by decide +kernel
theorem dX11_says_4 : decode cX11_says 4 = .ok (.getfield 24, 3) := by decide +kernel
theorem dX11_says_7 : decode cX11_says 7 = .ok (.getfield 250, 3) := by decide +kernel
theorem dX11_says_10 : decode cX11_says 10 = .ok (.iload_n 1, 1) := by decide +kernel
theorem dX11_says_11 : decode cX11_says 11 = .ok (.invokevirtual 110, 3) := by decide +kernel
theorem dX11_says_14 : decode cX11_says 14 = .ok (.ifCond .eq 23, 3) := by decide +kernel
theorem dX11_says_38 : decode cX11_says 38 = .ok (.iconst 1, 1) := by decide +kernel
theorem dX11_says_37 : decode cX11_says 37 = .ok (.aload_n 0, 1) := by decide +kernel
theorem dX11_says_39 : decode cX11_says 39 = .ok (.invokevirtual 94, 3) := by decide +kernel
theorem dX11_says_17 : decode cX11_says 17 = .ok (.aload_n 0, 1) := by decide +kernel
theorem dX11_says_18 : decode cX11_says 18 = .ok (.getfield 10, 3) := by decide +kernel
theorem dX11_says_21 : decode cX11_says 21 = .ok (.getfield 24, 3) := by decide +kernel
theorem dX11_says_29 : decode cX11_says 29 = .ok (.iload 5, 2) := by decide +kernel
theorem dX11_says_27 : decode cX11_says 27 = .ok (.iload 4, 2) := by decide +kernel
theorem dX11_says_26 : decode cX11_says 26 = .ok (.iload_n 3, 1) := by decide +kernel
theorem dX11_says_25 : decode cX11_says 25 = .ok (.iload_n 2, 1) := by decide +kernel
theorem dX11_says_24 : decode cX11_says 24 = .ok (.iload_n 1, 1) := by decide +kernel
theorem dX11_says_31 : decode cX11_says 31 = .ok (.invokevirtual 273, 3) := by decide +kernel
theorem dX11_says_42 : decode cX11_says 42 = .ok (.ireturn, 1) := by decide +kernel
theorem dX11_says_34 : decode cX11_says 34 = .ok (.goto 8, 3) := by decide +kernel
theorem dX11_meeting_2 : decode cX11_meeting 2 = .ok (.iload_n 2, 1) := by decide +kernel
theorem dX11_meeting_1 : decode cX11_meeting 1 = .ok (.iload_n 1, 1) := by decide +kernel
theorem dX11_meeting_0 : decode cX11_meeting 0 = .ok (.aload_n 0, 1) := by decide +kernel
theorem dX11_meeting_3 : decode cX11_meeting 3 = .ok (.invokevirtual 241, 3) := by decide +kernel
theorem dX11_meeting_8 : decode cX11_meeting 8 = .ok (.ifCond .eq 9, 3) := by decide +kernel
theorem dX11_meeting_7 : decode cX11_meeting 7 = .ok (.iload_n 3, 1) := by decide +kernel
theorem dX11_meeting_6 : decode cX11_meeting 6 = .ok (.istore_n 3, 1) := by decide +kernel
theorem dX11_meeting_17 : decode cX11_meeting 17 = .ok (.aload_n 0, 1) := by decide +kernel
theorem dX11_meeting_18 : decode cX11_meeting 18 = .ok (.getfield 10, 3) := by decide +kernel
theorem dX11_meeting_22 : decode cX11_meeting 22 = .ok (.iload_n 2, 1) := by decide +kernel
theorem dX11_meeting_21 : decode cX11_meeting 21 = .ok (.iload_n 1, 1) := by decide +kernel
theorem dX11_meeting_23 : decode cX11_meeting 23 = .ok (.invokevirtual 277, 3) := by decide +kernel
theorem dX11_meeting_12 : decode cX11_meeting 12 = .ok (.iload_n 3, 1) := by decide +kernel
theorem dX11_meeting_11 : decode cX11_meeting 11 = .ok (.aload_n 0, 1) := by decide +kernel
theorem dX11_meeting_13 : decode cX11_meeting 13 = .ok (.invokevirtual 94, 3) := by decide +kernel
theorem dX11_meeting_30 : decode cX11_meeting 30 = .ok (.ifCond .ge 11, 3) := by decide +kernel
theorem dX11_meeting_28 : decode cX11_meeting 28 = .ok (.iload 4, 2) := by decide +kernel
theorem dX11_meeting_26 : decode cX11_meeting 26 = .ok (.istore 4, 2) := by decide +kernel
theorem dX11_meeting_41 : decode cX11_meeting 41 = .ok (.aload_n 0, 1) := by decide +kernel
theorem dX11_meeting_42 : decode cX11_meeting 42 = .ok (.getfield 10, 3) := by decide +kernel
theorem dX11_meeting_45 : decode cX11_meeting 45 = .ok (.getfield 280, 3) := by decide +kernel
theorem dX11_meeting_50 : decode cX11_meeting 50 = .ok (.iadd, 1) := by decide +kernel
theorem dX11_meeting_48 : decode cX11_meeting 48 = .ok (.iload 4, 2) := by decide +kernel
theorem dX11_meeting_51 : decode cX11_meeting 51 = .ok (.ireturn, 1) := by decide +kernel
theorem dX11_meeting_34 : decode cX11_meeting 34 = .ok (.iconst 2, 1) := by decide +kernel
theorem dX11_meeting_33 : decode cX11_meeting 33 = .ok (.aload_n 0, 1) := by decide +kernel
theorem dX11_meeting_35 : decode cX11_meeting 35 = .ok (.invokevirtual 94, 3) := by decide +kernel
theorem dX11_meeting_16 : decode cX11_meeting 16 = .ok (.ireturn, 1) := by decide +kernel
theorem dX11_meeting_38 : decode cX11_meeting 38 = .ok (.goto 13, 3) := by decide +kernel
theorem dX11_sending_2 : decode cX11_sending 2 = .ok (.bipush 60, 2) := by decide +kernel
theorem dX11_sending_1 : decode cX11_sending 1 = .ok (.iconst 1, 1) := by decide +kernel
theorem dX11_sending_0 : decode cX11_sending 0 = .ok (.iload_n 1, 1) := by decide +kernel
theorem dX11_sending_4 : decode cX11_sending 4 = .ok (.invokestatic 90, 3) := by decide +kernel
theorem dX11_sending_7 : decode cX11_sending 7 = .ok (.ifCond .eq 13, 3) := by decide +kernel
theorem dX11_sending_21 : decode cX11_sending 21 = .ok (.iconst 1, 1) := by decide +kernel
theorem dX11_sending_20 : decode cX11_sending 20 = .ok (.aload_n 0, 1) := by decide +kernel
theorem dX11_sending_22 : decode cX11_sending 22 = .ok (.invokevirtual 94, 3) := by decide +kernel
theorem dX11_sending_13 : decode cX11_sending 13 = .ok (.iconst 5, 1) := by decide +kernel
theorem dX11_sending_11 : decode cX11_sending 11 = .ok (.bipush (-2), 2) := by decide +kernel
theorem dX11_sending_10 : decode cX11_sending 10 = .ok (.iload_n 2, 1) := by decide +kernel
theorem dX11_sending_14 : decode cX11_sending 14 = .ok (.invokestatic 90, 3) := by decide +kernel
theorem dX11_sending_25 : decode cX11_sending 25 = .ok (.ireturn, 1) := by decide +kernel
theorem dX11_sending_17 : decode cX11_sending 17 = .ok (.ifCond .ne 9, 3) := by decide +kernel
theorem dX11_sending_26 : decode cX11_sending 26 = .ok (.aload_n 0, 1) := by decide +kernel
theorem dX11_sending_27 : decode cX11_sending 27 = .ok (.getfield 51, 3) := by decide +kernel
theorem dX11_sending_30 : decode cX11_sending 30 = .ok (.invokevirtual 210, 3) := by decide +kernel
theorem dX11_sending_34 : decode cX11_sending 34 = .ok (.aload_n 0, 1) := by decide +kernel
theorem dX11_sending_33 : decode cX11_sending 33 = .ok (.aload_n 0, 1) := by decide +kernel
theorem dX11_sending_35 : decode cX11_sending 35 = .ok (.getfield 51, 3) := by decide +kernel
theorem dX11_sending_38 : decode cX11_sending 38 = .ok (.getfield 201, 3) := by decide +kernel
theorem dX11_sending_42 : decode cX11_sending 42 = .ok (.iconst 0, 1) := by decide +kernel
theorem dX11_sending_41 : decode cX11_sending 41 = .ok (.iconst 1, 1) := by decide +kernel
theorem dX11_sending_43 : decode cX11_sending 43 = .ok (.invokevirtual 283, 3) := by decide +kernel
theorem dX11_sending_47 : decode cX11_sending 47 = .ok (.aload_n 0, 1) := by decide +kernel
theorem dX11_sending_46 : decode cX11_sending 46 = .ok (.aload_n 0, 1) := by decide +kernel
theorem dX11_sending_48 : decode cX11_sending 48 = .ok (.getfield 51, 3) := by decide +kernel
theorem dX11_sending_51 : decode cX11_sending 51 = .ok (.getfield 213, 3) := by decide +kernel
theorem dX11_sending_55 : decode cX11_sending 55 = .ok (.iconst 1, 1) := by decide +kernel
theorem dX11_sending_54 : decode cX11_sending 54 = .ok (.iconst 4, 1) := by decide +kernel
theorem dX11_sending_56 : decode cX11_sending 56 = .ok (.invokevirtual 283, 3) := by decide +kernel
theorem dX11_sending_60 : decode cX11_sending 60 = .ok (.aload_n 0, 1) := by decide +kernel
theorem dX11_sending_59 : decode cX11_sending 59 = .ok (.iload_n 2, 1) := by decide +kernel
theorem dX11_sending_61 : decode cX11_sending 61 = .ok (.getfield 51, 3) := by decide +kernel
theorem dX11_sending_64 : decode cX11_sending 64 = .ok (.getfield 201, 3) := by decide +kernel
theorem dX11_sending_67 : decode cX11_sending 67 = .ok (.invokevirtual 168, 3) := by decide +kernel
theorem dX11_sending_70 : decode cX11_sending 70 = .ok (.if_icmp .lt 9, 3) := by decide +kernel
theorem dX11_sending_80 : decode cX11_sending 80 = .ok (.iload_n 1, 1) := by decide +kernel
theorem dX11_sending_79 : decode cX11_sending 79 = .ok (.aload_n 0, 1) := by decide +kernel
theorem dX11_sending_81 : decode cX11_sending 81 = .ok (.invokevirtual 287, 3) := by decide +kernel
theorem dX11_sending_74 : decode cX11_sending 74 = .ok (.iconst 2, 1) := by decide +kernel
theorem dX11_sending_73 : decode cX11_sending 73 = .ok (.aload_n 0, 1) := by decide +kernel
theorem dX11_sending_75 : decode cX11_sending 75 = .ok (.invokevirtual 94, 3) := by decide +kernel
theorem dX11_sending_84 : decode cX11_sending 84 = .ok (.aload_n 0, 1) := by decide +kernel
theorem dX11_sending_85 : decode cX11_sending 85 = .ok (.getfield 51, 3) := by decide +kernel
theorem dX11_sending_88 : decode cX11_sending 88 = .ok (.aload_n 0, 1) := by decide +kernel
theorem dX11_sending_89 : decode cX11_sending 89 = .ok (.getfield 10, 3) := by decide +kernel
theorem dX11_sending_93 : decode cX11_sending 93 = .ok (.iconst 1, 1) := by decide +kernel
theorem dX11_sending_92 : decode cX11_sending 92 = .ok (.iconst 4, 1) := by decide +kernel
theorem dX11_sending_94 : decode cX11_sending 94 = .ok (.invokevirtual 290, 3) := by decide +kernel
theorem dX11_sending_78 : decode cX11_sending 78 = .ok (.ireturn, 1) := by decide +kernel
theorem dX11_sending_97 : decode cX11_sending 97 = .ok (.aload_n 0, 1) := by decide +kernel
theorem dX11_sending_98 : decode cX11_sending 98 = .ok (.getfield 10, 3) := by decide +kernel
theorem dX11_sending_101 : decode cX11_sending 101 = .ok (.invokevirtual 293, 3) := by decide +kernel
theorem dX11_sending_104 : decode cX11_sending 104 = .ok (.isub, 1) := by decide +kernel
theorem dX11_sending_105 : decode cX11_sending 105 = .ok (.invokevirtual 192, 3) := by decide +kernel
theorem dX11_sending_109 : decode cX11_sending 109 = .ok (.ifCond .ge 26, 3) := by decide +kernel
theorem dX11_sending_108 : decode cX11_sending 108 = .ok (.iload_n 2, 1) := by decide +kernel
theorem dX11_sending_135 : decode cX11_sending 135 = .ok (.aload_n 0, 1) := by decide +kernel
theorem dX11_sending_136 : decode cX11_sending 136 = .ok (.getfield 51, 3) := by decide +kernel
theorem dX11_sending_139 : decode cX11_sending 139 = .ok (.iload_n 2, 1) := by decide +kernel
theorem dX11_sending_140 : decode cX11_sending 140 = .ok (.invokevirtual 207, 3) := by decide +kernel
theorem dX11_sending_114 : decode cX11_sending 114 = .ok (.if_icmp .ne 13, 3) := by decide +kernel
theorem dX11_sending_113 : decode cX11_sending 113 = .ok (.iconst (-1), 1) := by decide +kernel
theorem dX11_sending_112 : decode cX11_sending 112 = .ok (.iload_n 2, 1) := by decide +kernel
theorem dX11_sending_117 : decode cX11_sending 117 = .ok (.aload_n 0, 1) := by decide +kernel
theorem dX11_sending_118 : decode cX11_sending 118 = .ok (.getfield 51, 3) := by decide +kernel
theorem dX11_sending_121 : decode cX11_sending 121 = .ok (.invokevirtual 195, 3) := by decide +kernel
theorem dX11_sending_127 : decode cX11_sending 127 = .ok (.aload_n 0, 1) := by decide +kernel
theorem dX11_sending_128 : decode cX11_sending 128 = .ok (.getfield 51, 3) := by decide +kernel
theorem dX11_sending_131 : decode cX11_sending 131 = .ok (.invokevirtual 198, 3) := by decide +kernel
theorem dX11_sending_143 : decode cX11_sending 143 = .ok (.ireturn, 1) := by decide +kernel
theorem dX11_sending_124 : decode cX11_sending 124 = .ok (.goto 10, 3) := by decide +kernel
theorem dX11_sending_134 : decode cX11_sending 134 = .ok (.ireturn, 1) := by decide +kernel
theorem dX11_listLeast_1 : decode cX11_listLeast 1 = .ok (.istore 4, 2) := by decide +kernel
theorem dX11_listLeast_0 : decode cX11_listLeast 0 = .ok (.iconst 0, 1) := by decide +kernel
theorem dX11_listLeast_5 : decode cX11_listLeast 5 = .ok (.aload_n 0, 1) := by decide +kernel
theorem dX11_listLeast_3 : decode cX11_listLeast 3 = .ok (.iload 4, 2) := by decide +kernel
theorem dX11_listLeast_6 : decode cX11_listLeast 6 = .ok (.getfield 10, 3) := by decide +kernel
theorem dX11_listLeast_9 : decode cX11_listLeast 9 = .ok (.getfield 229, 3) := by decide +kernel
theorem dX11_listLeast_12 : decode cX11_listLeast 12 = .ok (.invokevirtual 168, 3) := by decide +kernel
theorem dX11_listLeast_15 : decode cX11_listLeast 15 = .ok (.if_icmp .ge 51, 3) := by decide +kernel
theorem dX11_listLeast_66 : decode cX11_listLeast 66 = .ok (.return_, 1) := by decide +kernel
theorem dX11_listLeast_18 : decode cX11_listLeast 18 = .ok (.aload_n 1, 1) := by decide +kernel
theorem dX11_listLeast_19 : decode cX11_listLeast 19 = .ok (.invokevirtual 168, 3) := by decide +kernel
theorem dX11_listLeast_24 : decode cX11_listLeast 24 = .ok (.if_icmp .ge 42, 3) := by decide +kernel
theorem dX11_listLeast_22 : decode cX11_listLeast 22 = .ok (.bipush 6, 2) := by decide +kernel
theorem dX11_listLeast_27 : decode cX11_listLeast 27 = .ok (.aload_n 0, 1) := by decide +kernel
theorem dX11_listLeast_28 : decode cX11_listLeast 28 = .ok (.getfield 10, 3) := by decide +kernel
theorem dX11_listLeast_33 : decode cX11_listLeast 33 = .ok (.iload_n 2, 1) := by decide +kernel
theorem dX11_listLeast_31 : decode cX11_listLeast 31 = .ok (.iload 4, 2) := by decide +kernel
theorem dX11_listLeast_34 : decode cX11_listLeast 34 = .ok (.invokevirtual 235, 3) := by decide +kernel
theorem dX11_listLeast_37 : decode cX11_listLeast 37 = .ok (.ifCond .eq 23, 3) := by decide +kernel
theorem dX11_listLeast_63 : decode cX11_listLeast 63 = .ok (.goto (-60), 3) := by decide +kernel
theorem dX11_listLeast_60 : decode cX11_listLeast 60 = .ok (.iinc 4 1, 3) := by decide +kernel
theorem dX11_listLeast_40 : decode cX11_listLeast 40 = .ok (.aload_n 0, 1) := by decide +kernel
theorem dX11_listLeast_41 : decode cX11_listLeast 41 = .ok (.getfield 10, 3) := by decide +kernel
theorem dX11_listLeast_46 : decode cX11_listLeast 46 = .ok (.iload_n 3, 1) := by decide +kernel
theorem dX11_listLeast_44 : decode cX11_listLeast 44 = .ok (.iload 4, 2) := by decide +kernel
theorem dX11_listLeast_47 : decode cX11_listLeast 47 = .ok (.invokevirtual 247, 3) := by decide +kernel
theorem dX11_listLeast_50 : decode cX11_listLeast 50 = .ok (.ifCond .eq 10, 3) := by decide +kernel
theorem dX11_listLeast_54 : decode cX11_listLeast 54 = .ok (.iload 4, 2) := by decide +kernel
theorem dX11_listLeast_53 : decode cX11_listLeast 53 = .ok (.aload_n 1, 1) := by decide +kernel
theorem dX11_listLeast_56 : decode cX11_listLeast 56 = .ok (.invokevirtual 101, 3) := by decide +kernel
theorem dX11_listLeast_59 : decode cX11_listLeast 59 = .ok (.pop, 1) := by decide +kernel
theorem dX11_matchRaids_1 : decode cX11_matchRaids 1 = .ok (.istore_n 2, 1) := by decide +kernel
theorem dX11_matchRaids_0 : decode cX11_matchRaids 0 = .ok (.iconst 0, 1) := by decide +kernel
theorem dX11_matchRaids_3 : decode cX11_matchRaids 3 = .ok (.aload_n 0, 1) := by decide +kernel
theorem dX11_matchRaids_2 : decode cX11_matchRaids 2 = .ok (.iload_n 2, 1) := by decide +kernel
theorem dX11_matchRaids_4 : decode cX11_matchRaids 4 = .ok (.getfield 51, 3) := by decide +kernel
theorem dX11_matchRaids_7 : decode cX11_matchRaids 7 = .ok (.getfield 201, 3) := by decide +kernel
theorem dX11_matchRaids_10 : decode cX11_matchRaids 10 = .ok (.invokevirtual 168, 3) := by decide +kernel
theorem dX11_matchRaids_13 : decode cX11_matchRaids 13 = .ok (.if_icmp .ge 93, 3) := by decide +kernel
theorem dX11_matchRaids_106 : decode cX11_matchRaids 106 = .ok (.return_, 1) := by decide +kernel
theorem dX11_matchRaids_17 : decode cX11_matchRaids 17 = .ok (.istore_n 3, 1) := by decide +kernel
theorem dX11_matchRaids_16 : decode cX11_matchRaids 16 = .ok (.iconst 0, 1) := by decide +kernel
theorem dX11_matchRaids_19 : decode cX11_matchRaids 19 = .ok (.aload_n 0, 1) := by decide +kernel
theorem dX11_matchRaids_18 : decode cX11_matchRaids 18 = .ok (.iload_n 3, 1) := by decide +kernel
theorem dX11_matchRaids_20 : decode cX11_matchRaids 20 = .ok (.getfield 51, 3) := by decide +kernel
theorem dX11_matchRaids_23 : decode cX11_matchRaids 23 = .ok (.getfield 213, 3) := by decide +kernel
theorem dX11_matchRaids_26 : decode cX11_matchRaids 26 = .ok (.invokevirtual 168, 3) := by decide +kernel
theorem dX11_matchRaids_29 : decode cX11_matchRaids 29 = .ok (.if_icmp .ge 71, 3) := by decide +kernel
theorem dX11_matchRaids_103 : decode cX11_matchRaids 103 = .ok (.goto (-101), 3) := by decide +kernel
theorem dX11_matchRaids_100 : decode cX11_matchRaids 100 = .ok (.iinc 2 1, 3) := by decide +kernel
theorem dX11_matchRaids_32 : decode cX11_matchRaids 32 = .ok (.aload_n 0, 1) := by decide +kernel
theorem dX11_matchRaids_33 : decode cX11_matchRaids 33 = .ok (.getfield 10, 3) := by decide +kernel
theorem dX11_matchRaids_36 : decode cX11_matchRaids 36 = .ok (.aload_n 0, 1) := by decide +kernel
theorem dX11_matchRaids_37 : decode cX11_matchRaids 37 = .ok (.getfield 51, 3) := by decide +kernel
theorem dX11_matchRaids_40 : decode cX11_matchRaids 40 = .ok (.getfield 213, 3) := by decide +kernel
theorem dX11_matchRaids_44 : decode cX11_matchRaids 44 = .ok (.iconst 0, 1) := by decide +kernel
theorem dX11_matchRaids_43 : decode cX11_matchRaids 43 = .ok (.iload_n 3, 1) := by decide +kernel
theorem dX11_matchRaids_45 : decode cX11_matchRaids 45 = .ok (.invokevirtual 141, 3) := by decide +kernel
theorem dX11_matchRaids_48 : decode cX11_matchRaids 48 = .ok (.aload_n 0, 1) := by decide +kernel
theorem dX11_matchRaids_49 : decode cX11_matchRaids 49 = .ok (.getfield 51, 3) := by decide +kernel
theorem dX11_matchRaids_52 : decode cX11_matchRaids 52 = .ok (.getfield 201, 3) := by decide +kernel
theorem dX11_matchRaids_56 : decode cX11_matchRaids 56 = .ok (.iconst 0, 1) := by decide +kernel
theorem dX11_matchRaids_55 : decode cX11_matchRaids 55 = .ok (.iload_n 2, 1) := by decide +kernel
theorem dX11_matchRaids_57 : decode cX11_matchRaids 57 = .ok (.invokevirtual 141, 3) := by decide +kernel
theorem dX11_matchRaids_60 : decode cX11_matchRaids 60 = .ok (.invokevirtual 277, 3) := by decide +kernel
theorem dX11_matchRaids_68 : decode cX11_matchRaids 68 = .ok (.iload_n 1, 1) := by decide +kernel
theorem dX11_matchRaids_67 : decode cX11_matchRaids 67 = .ok (.iconst 1, 1) := by decide +kernel
theorem dX11_matchRaids_65 : decode cX11_matchRaids 65 = .ok (.iload 4, 2) := by decide +kernel
theorem dX11_matchRaids_63 : decode cX11_matchRaids 63 = .ok (.istore 4, 2) := by decide +kernel
theorem dX11_matchRaids_69 : decode cX11_matchRaids 69 = .ok (.invokestatic 90, 3) := by decide +kernel
theorem dX11_matchRaids_72 : decode cX11_matchRaids 72 = .ok (.ifCond .eq 22, 3) := by decide +kernel
theorem dX11_matchRaids_97 : decode cX11_matchRaids 97 = .ok (.goto (-79), 3) := by decide +kernel
theorem dX11_matchRaids_94 : decode cX11_matchRaids 94 = .ok (.iinc 3 1, 3) := by decide +kernel
theorem dX11_matchRaids_75 : decode cX11_matchRaids 75 = .ok (.aload_n 0, 1) := by decide +kernel
theorem dX11_matchRaids_76 : decode cX11_matchRaids 76 = .ok (.getfield 51, 3) := by decide +kernel
theorem dX11_matchRaids_81 : decode cX11_matchRaids 81 = .ok (.aload_n 0, 1) := by decide +kernel
theorem dX11_matchRaids_80 : decode cX11_matchRaids 80 = .ok (.iload_n 3, 1) := by decide +kernel
theorem dX11_matchRaids_79 : decode cX11_matchRaids 79 = .ok (.iload_n 2, 1) := by decide +kernel
theorem dX11_matchRaids_82 : decode cX11_matchRaids 82 = .ok (.getfield 10, 3) := by decide +kernel
theorem dX11_matchRaids_85 : decode cX11_matchRaids 85 = .ok (.getfield 280, 3) := by decide +kernel
theorem dX11_matchRaids_90 : decode cX11_matchRaids 90 = .ok (.iadd, 1) := by decide +kernel
theorem dX11_matchRaids_88 : decode cX11_matchRaids 88 = .ok (.iload 4, 2) := by decide +kernel
theorem dX11_matchRaids_91 : decode cX11_matchRaids 91 = .ok (.invokevirtual 219, 3) := by decide +kernel
theorem dX11_pilots_0 : decode cX11_pilots 0 = .ok (.aload_n 0, 1) := by decide +kernel
theorem dX11_pilots_1 : decode cX11_pilots 1 = .ok (.getfield 44, 3) := by decide +kernel
theorem dX11_pilots_4 : decode cX11_pilots 4 = .ok (.iload_n 1, 1) := by decide +kernel
theorem dX11_pilots_5 : decode cX11_pilots 5 = .ok (.invokevirtual 158, 3) := by decide +kernel
theorem dX11_pilots_10 : decode cX11_pilots 10 = .ok (.ifCond .eq 9, 3) := by decide +kernel
theorem dX11_pilots_9 : decode cX11_pilots 9 = .ok (.iload_n 3, 1) := by decide +kernel
theorem dX11_pilots_8 : decode cX11_pilots 8 = .ok (.istore_n 3, 1) := by decide +kernel
theorem dX11_pilots_19 : decode cX11_pilots 19 = .ok (.aload_n 0, 1) := by decide +kernel
theorem dX11_pilots_20 : decode cX11_pilots 20 = .ok (.getfield 58, 3) := by decide +kernel
theorem dX11_pilots_23 : decode cX11_pilots 23 = .ok (.aload_n 0, 1) := by decide +kernel
theorem dX11_pilots_24 : decode cX11_pilots 24 = .ok (.getfield 44, 3) := by decide +kernel
theorem dX11_pilots_27 : decode cX11_pilots 27 = .ok (.iload_n 1, 1) := by decide +kernel
theorem dX11_pilots_28 : decode cX11_pilots 28 = .ok (.invokevirtual 296, 3) := by decide +kernel
theorem dX11_pilots_14 : decode cX11_pilots 14 = .ok (.iload_n 3, 1) := by decide +kernel
theorem dX11_pilots_13 : decode cX11_pilots 13 = .ok (.aload_n 0, 1) := by decide +kernel
theorem dX11_pilots_15 : decode cX11_pilots 15 = .ok (.invokevirtual 94, 3) := by decide +kernel
theorem dX11_pilots_31 : decode cX11_pilots 31 = .ok (.ifCond .ne 9, 3) := by decide +kernel
theorem dX11_pilots_35 : decode cX11_pilots 35 = .ok (.iconst 5, 1) := by decide +kernel
theorem dX11_pilots_34 : decode cX11_pilots 34 = .ok (.aload_n 0, 1) := by decide +kernel
theorem dX11_pilots_36 : decode cX11_pilots 36 = .ok (.invokevirtual 94, 3) := by decide +kernel
theorem dX11_pilots_42 : decode cX11_pilots 42 = .ok (.aload_n 0, 1) := by decide +kernel
theorem dX11_pilots_41 : decode cX11_pilots 41 = .ok (.iconst 0, 1) := by decide +kernel
theorem dX11_pilots_40 : decode cX11_pilots 40 = .ok (.iload_n 2, 1) := by decide +kernel
theorem dX11_pilots_43 : decode cX11_pilots 43 = .ok (.getfield 44, 3) := by decide +kernel
theorem dX11_pilots_46 : decode cX11_pilots 46 = .ok (.iload_n 1, 1) := by decide +kernel
theorem dX11_pilots_47 : decode cX11_pilots 47 = .ok (.invokevirtual 161, 3) := by decide +kernel
theorem dX11_pilots_18 : decode cX11_pilots 18 = .ok (.ireturn, 1) := by decide +kernel
theorem dX11_pilots_39 : decode cX11_pilots 39 = .ok (.ireturn, 1) := by decide +kernel
theorem dX11_pilots_51 : decode cX11_pilots 51 = .ok (.isub, 1) := by decide +kernel
theorem dX11_pilots_50 : decode cX11_pilots 50 = .ok (.iconst 1, 1) := by decide +kernel
theorem dX11_pilots_52 : decode cX11_pilots 52 = .ok (.invokestatic 90, 3) := by decide +kernel
theorem dX11_pilots_55 : decode cX11_pilots 55 = .ok (.ifCond .ne 9, 3) := by decide +kernel
theorem dX11_pilots_59 : decode cX11_pilots 59 = .ok (.iconst 1, 1) := by decide +kernel
theorem dX11_pilots_58 : decode cX11_pilots 58 = .ok (.aload_n 0, 1) := by decide +kernel
theorem dX11_pilots_60 : decode cX11_pilots 60 = .ok (.invokevirtual 94, 3) := by decide +kernel
theorem dX11_pilots_64 : decode cX11_pilots 64 = .ok (.aload_n 0, 1) := by decide +kernel
theorem dX11_pilots_65 : decode cX11_pilots 65 = .ok (.getfield 58, 3) := by decide +kernel
theorem dX11_pilots_68 : decode cX11_pilots 68 = .ok (.invokevirtual 299, 3) := by decide +kernel
theorem dX11_pilots_63 : decode cX11_pilots 63 = .ok (.ireturn, 1) := by decide +kernel
theorem dX11_pilots_71 : decode cX11_pilots 71 = .ok (.ifCond .eq 14, 3) := by decide +kernel
theorem dX11_pilots_86 : decode cX11_pilots 86 = .ok (.iconst 3, 1) := by decide +kernel
theorem dX11_pilots_85 : decode cX11_pilots 85 = .ok (.aload_n 0, 1) := by decide +kernel
theorem dX11_pilots_87 : decode cX11_pilots 87 = .ok (.invokevirtual 94, 3) := by decide +kernel
theorem dX11_pilots_74 : decode cX11_pilots 74 = .ok (.aload_n 0, 1) := by decide +kernel
theorem dX11_pilots_75 : decode cX11_pilots 75 = .ok (.getfield 58, 3) := by decide +kernel
theorem dX11_pilots_78 : decode cX11_pilots 78 = .ok (.iload_n 2, 1) := by decide +kernel
theorem dX11_pilots_79 : decode cX11_pilots 79 = .ok (.invokevirtual 302, 3) := by decide +kernel
theorem dX11_pilots_90 : decode cX11_pilots 90 = .ok (.ireturn, 1) := by decide +kernel
theorem dX11_pilots_82 : decode cX11_pilots 82 = .ok (.goto 8, 3) := by decide +kernel
theorem dX11_laying_0 : decode cX11_laying 0 = .ok (.aload_n 0, 1) := by decide +kernel
theorem dX11_laying_1 : decode cX11_laying 1 = .ok (.getfield 44, 3) := by decide +kernel
theorem dX11_laying_4 : decode cX11_laying 4 = .ok (.iload_n 1, 1) := by decide +kernel
theorem dX11_laying_5 : decode cX11_laying 5 = .ok (.invokevirtual 305, 3) := by decide +kernel
theorem dX11_laying_8 : decode cX11_laying 8 = .ok (.ifCond .eq 33, 3) := by decide +kernel
theorem dX11_laying_42 : decode cX11_laying 42 = .ok (.iconst 1, 1) := by decide +kernel
theorem dX11_laying_41 : decode cX11_laying 41 = .ok (.aload_n 0, 1) := by decide +kernel
theorem dX11_laying_43 : decode cX11_laying 43 = .ok (.invokevirtual 94, 3) := by decide +kernel
theorem dX11_laying_11 : decode cX11_laying 11 = .ok (.aload_n 0, 1) := by decide +kernel
theorem dX11_laying_12 : decode cX11_laying 12 = .ok (.getfield 44, 3) := by decide +kernel
theorem dX11_laying_15 : decode cX11_laying 15 = .ok (.iload_n 2, 1) := by decide +kernel
theorem dX11_laying_16 : decode cX11_laying 16 = .ok (.invokevirtual 305, 3) := by decide +kernel
theorem dX11_laying_46 : decode cX11_laying 46 = .ok (.ireturn, 1) := by decide +kernel
theorem dX11_laying_19 : decode cX11_laying 19 = .ok (.ifCond .eq 22, 3) := by decide +kernel
theorem dX11_laying_24 : decode cX11_laying 24 = .ok (.iconst 4, 1) := by decide +kernel
theorem dX11_laying_23 : decode cX11_laying 23 = .ok (.iconst 1, 1) := by decide +kernel
theorem dX11_laying_22 : decode cX11_laying 22 = .ok (.iload_n 3, 1) := by decide +kernel
theorem dX11_laying_25 : decode cX11_laying 25 = .ok (.invokestatic 90, 3) := by decide +kernel
theorem dX11_laying_28 : decode cX11_laying 28 = .ok (.ifCond .eq 13, 3) := by decide +kernel
theorem dX11_laying_34 : decode cX11_laying 34 = .ok (.iconst 0, 1) := by decide +kernel
theorem dX11_laying_33 : decode cX11_laying 33 = .ok (.iconst (-1), 1) := by decide +kernel
theorem dX11_laying_31 : decode cX11_laying 31 = .ok (.iload 4, 2) := by decide +kernel
theorem dX11_laying_35 : decode cX11_laying 35 = .ok (.invokestatic 90, 3) := by decide +kernel
theorem dX11_laying_38 : decode cX11_laying 38 = .ok (.ifCond .ne 9, 3) := by decide +kernel
theorem dX11_laying_47 : decode cX11_laying 47 = .ok (.aload_n 0, 1) := by decide +kernel
theorem dX11_laying_48 : decode cX11_laying 48 = .ok (.getfield 44, 3) := by decide +kernel
theorem dX11_laying_51 : decode cX11_laying 51 = .ok (.iload_n 1, 1) := by decide +kernel
theorem dX11_laying_52 : decode cX11_laying 52 = .ok (.invokevirtual 158, 3) := by decide +kernel
theorem dX11_laying_55 : decode cX11_laying 55 = .ok (.ifCond .ne 14, 3) := by decide +kernel
theorem dX11_laying_58 : decode cX11_laying 58 = .ok (.aload_n 0, 1) := by decide +kernel
theorem dX11_laying_59 : decode cX11_laying 59 = .ok (.getfield 44, 3) := by decide +kernel
theorem dX11_laying_62 : decode cX11_laying 62 = .ok (.iload_n 2, 1) := by decide +kernel
theorem dX11_laying_63 : decode cX11_laying 63 = .ok (.invokevirtual 158, 3) := by decide +kernel
theorem dX11_laying_70 : decode cX11_laying 70 = .ok (.iconst 2, 1) := by decide +kernel
theorem dX11_laying_69 : decode cX11_laying 69 = .ok (.aload_n 0, 1) := by decide +kernel
theorem dX11_laying_71 : decode cX11_laying 71 = .ok (.invokevirtual 94, 3) := by decide +kernel
theorem dX11_laying_66 : decode cX11_laying 66 = .ok (.ifCond .eq 9, 3) := by decide +kernel
theorem dX11_laying_75 : decode cX11_laying 75 = .ok (.aload_n 0, 1) := by decide +kernel
theorem dX11_laying_76 : decode cX11_laying 76 = .ok (.getfield 65, 3) := by decide +kernel
theorem dX11_laying_79 : decode cX11_laying 79 = .ok (.aload_n 0, 1) := by decide +kernel
theorem dX11_laying_80 : decode cX11_laying 80 = .ok (.getfield 44, 3) := by decide +kernel
theorem dX11_laying_84 : decode cX11_laying 84 = .ok (.iload_n 2, 1) := by decide +kernel
theorem dX11_laying_83 : decode cX11_laying 83 = .ok (.iload_n 1, 1) := by decide +kernel
theorem dX11_laying_85 : decode cX11_laying 85 = .ok (.invokevirtual 306, 3) := by decide +kernel
theorem dX11_laying_74 : decode cX11_laying 74 = .ok (.ireturn, 1) := by decide +kernel
theorem dX11_laying_88 : decode cX11_laying 88 = .ok (.ifCond .ne 9, 3) := by decide +kernel
theorem dX11_laying_92 : decode cX11_laying 92 = .ok (.iconst 5, 1) := by decide +kernel
theorem dX11_laying_91 : decode cX11_laying 91 = .ok (.aload_n 0, 1) := by decide +kernel
theorem dX11_laying_93 : decode cX11_laying 93 = .ok (.invokevirtual 94, 3) := by decide +kernel
theorem dX11_laying_97 : decode cX11_laying 97 = .ok (.aload_n 0, 1) := by decide +kernel
theorem dX11_laying_98 : decode cX11_laying 98 = .ok (.getfield 65, 3) := by decide +kernel
theorem dX11_laying_101 : decode cX11_laying 101 = .ok (.invokevirtual 309, 3) := by decide +kernel
theorem dX11_laying_96 : decode cX11_laying 96 = .ok (.ireturn, 1) := by decide +kernel
theorem dX11_laying_105 : decode cX11_laying 105 = .ok (.if_icmp .ge 9, 3) := by decide +kernel
theorem dX11_laying_104 : decode cX11_laying 104 = .ok (.iload_n 3, 1) := by decide +kernel
theorem dX11_laying_114 : decode cX11_laying 114 = .ok (.aload_n 0, 1) := by decide +kernel
theorem dX11_laying_115 : decode cX11_laying 115 = .ok (.getfield 65, 3) := by decide +kernel
theorem dX11_laying_118 : decode cX11_laying 118 = .ok (.iload_n 3, 1) := by decide +kernel
theorem dX11_laying_119 : decode cX11_laying 119 = .ok (.invokevirtual 311, 3) := by decide +kernel
theorem dX11_laying_109 : decode cX11_laying 109 = .ok (.iconst 3, 1) := by decide +kernel
theorem dX11_laying_108 : decode cX11_laying 108 = .ok (.aload_n 0, 1) := by decide +kernel
theorem dX11_laying_110 : decode cX11_laying 110 = .ok (.invokevirtual 94, 3) := by decide +kernel
theorem dX11_laying_125 : decode cX11_laying 125 = .ok (.if_icmp .ne 13, 3) := by decide +kernel
theorem dX11_laying_124 : decode cX11_laying 124 = .ok (.iconst (-1), 1) := by decide +kernel
theorem dX11_laying_122 : decode cX11_laying 122 = .ok (.iload 4, 2) := by decide +kernel
theorem dX11_laying_128 : decode cX11_laying 128 = .ok (.aload_n 0, 1) := by decide +kernel
theorem dX11_laying_129 : decode cX11_laying 129 = .ok (.getfield 65, 3) := by decide +kernel
theorem dX11_laying_132 : decode cX11_laying 132 = .ok (.invokevirtual 314, 3) := by decide +kernel
theorem dX11_laying_138 : decode cX11_laying 138 = .ok (.aload_n 0, 1) := by decide +kernel
theorem dX11_laying_139 : decode cX11_laying 139 = .ok (.getfield 65, 3) := by decide +kernel
theorem dX11_laying_142 : decode cX11_laying 142 = .ok (.invokevirtual 317, 3) := by decide +kernel
theorem dX11_laying_113 : decode cX11_laying 113 = .ok (.ireturn, 1) := by decide +kernel
theorem dX11_laying_135 : decode cX11_laying 135 = .ok (.goto 10, 3) := by decide +kernel
theorem dX11_laying_145 : decode cX11_laying 145 = .ok (.ireturn, 1) := by decide +kernel
theorem dX11_minutes_2 : decode cX11_minutes 2 = .ok (.sipush 200, 3) := by decide +kernel
theorem dX11_minutes_1 : decode cX11_minutes 1 = .ok (.iconst 1, 1) := by decide +kernel
theorem dX11_minutes_0 : decode cX11_minutes 0 = .ok (.iload_n 1, 1) := by decide +kernel
theorem dX11_minutes_5 : decode cX11_minutes 5 = .ok (.invokestatic 90, 3) := by decide +kernel
theorem dX11_minutes_8 : decode cX11_minutes 8 = .ok (.ifCond .eq 18, 3) := by decide +kernel
theorem dX11_minutes_27 : decode cX11_minutes 27 = .ok (.iconst 1, 1) := by decide +kernel
theorem dX11_minutes_26 : decode cX11_minutes 26 = .ok (.aload_n 0, 1) := by decide +kernel
theorem dX11_minutes_28 : decode cX11_minutes 28 = .ok (.invokevirtual 94, 3) := by decide +kernel
theorem dX11_minutes_11 : decode cX11_minutes 11 = .ok (.aload_n 0, 1) := by decide +kernel
theorem dX11_minutes_12 : decode cX11_minutes 12 = .ok (.getfield 10, 3) := by decide +kernel
theorem dX11_minutes_15 : decode cX11_minutes 15 = .ok (.getfield 280, 3) := by decide +kernel
theorem dX11_minutes_23 : decode cX11_minutes 23 = .ok (.if_icmp .le 9, 3) := by decide +kernel
theorem dX11_minutes_20 : decode cX11_minutes 20 = .ok (.sipush 1000, 3) := by decide +kernel
theorem dX11_minutes_19 : decode cX11_minutes 19 = .ok (.iadd, 1) := by decide +kernel
theorem dX11_minutes_18 : decode cX11_minutes 18 = .ok (.iload_n 1, 1) := by decide +kernel
theorem dX11_minutes_33 : decode cX11_minutes 33 = .ok (.istore_n 2, 1) := by decide +kernel
theorem dX11_minutes_32 : decode cX11_minutes 32 = .ok (.iconst 0, 1) := by decide +kernel
theorem dX11_minutes_31 : decode cX11_minutes 31 = .ok (.ireturn, 1) := by decide +kernel
theorem dX11_minutes_36 : decode cX11_minutes 36 = .ok (.if_icmp .ge 16, 3) := by decide +kernel
theorem dX11_minutes_35 : decode cX11_minutes 35 = .ok (.iload_n 1, 1) := by decide +kernel
theorem dX11_minutes_34 : decode cX11_minutes 34 = .ok (.iload_n 2, 1) := by decide +kernel
theorem dX11_minutes_52 : decode cX11_minutes 52 = .ok (.aload_n 0, 1) := by decide +kernel
theorem dX11_minutes_53 : decode cX11_minutes 53 = .ok (.getfield 10, 3) := by decide +kernel
theorem dX11_minutes_56 : decode cX11_minutes 56 = .ok (.getfield 280, 3) := by decide +kernel
theorem dX11_minutes_59 : decode cX11_minutes 59 = .ok (.ireturn, 1) := by decide +kernel
theorem dX11_minutes_39 : decode cX11_minutes 39 = .ok (.aload_n 0, 1) := by decide +kernel
theorem dX11_minutes_40 : decode cX11_minutes 40 = .ok (.getfield 10, 3) := by decide +kernel
theorem dX11_minutes_43 : decode cX11_minutes 43 = .ok (.invokestatic 320, 3) := by decide +kernel
theorem dX11_minutes_49 : decode cX11_minutes 49 = .ok (.goto (-15), 3) := by decide +kernel
theorem dX11_minutes_46 : decode cX11_minutes 46 = .ok (.iinc 2 1, 3) := by decide +kernel
theorem dX11_ahead_2 : decode cX11_ahead 2 = .ok (.sipush 200, 3) := by decide +kernel
theorem dX11_ahead_1 : decode cX11_ahead 1 = .ok (.iconst 0, 1) := by decide +kernel
theorem dX11_ahead_0 : decode cX11_ahead 0 = .ok (.iload_n 1, 1) := by decide +kernel
theorem dX11_ahead_5 : decode cX11_ahead 5 = .ok (.invokestatic 90, 3) := by decide +kernel
theorem dX11_ahead_8 : decode cX11_ahead 8 = .ok (.ifCond .eq 27, 3) := by decide +kernel
theorem dX11_ahead_36 : decode cX11_ahead 36 = .ok (.iconst 1, 1) := by decide +kernel
theorem dX11_ahead_35 : decode cX11_ahead 35 = .ok (.aload_n 0, 1) := by decide +kernel
theorem dX11_ahead_37 : decode cX11_ahead 37 = .ok (.invokevirtual 94, 3) := by decide +kernel
theorem dX11_ahead_11 : decode cX11_ahead 11 = .ok (.aload_n 0, 1) := by decide +kernel
theorem dX11_ahead_12 : decode cX11_ahead 12 = .ok (.getfield 10, 3) := by decide +kernel
theorem dX11_ahead_15 : decode cX11_ahead 15 = .ok (.getfield 280, 3) := by decide +kernel
theorem dX11_ahead_23 : decode cX11_ahead 23 = .ok (.if_icmp .gt 12, 3) := by decide +kernel
theorem dX11_ahead_20 : decode cX11_ahead 20 = .ok (.sipush 1000, 3) := by decide +kernel
theorem dX11_ahead_19 : decode cX11_ahead 19 = .ok (.iadd, 1) := by decide +kernel
theorem dX11_ahead_18 : decode cX11_ahead 18 = .ok (.iload_n 1, 1) := by decide +kernel
theorem dX11_ahead_28 : decode cX11_ahead 28 = .ok (.iconst 5, 1) := by decide +kernel
theorem dX11_ahead_27 : decode cX11_ahead 27 = .ok (.iconst 0, 1) := by decide +kernel
theorem dX11_ahead_26 : decode cX11_ahead 26 = .ok (.iload_n 2, 1) := by decide +kernel
theorem dX11_ahead_29 : decode cX11_ahead 29 = .ok (.invokestatic 90, 3) := by decide +kernel
theorem dX11_ahead_40 : decode cX11_ahead 40 = .ok (.ireturn, 1) := by decide +kernel
theorem dX11_ahead_32 : decode cX11_ahead 32 = .ok (.ifCond .ne 9, 3) := by decide +kernel
theorem dX11_ahead_43 : decode cX11_ahead 43 = .ok (.if_icmp .ge 20, 3) := by decide +kernel
theorem dX11_ahead_42 : decode cX11_ahead 42 = .ok (.iconst 4, 1) := by decide +kernel
theorem dX11_ahead_41 : decode cX11_ahead 41 = .ok (.iload_n 2, 1) := by decide +kernel
theorem dX11_ahead_63 : decode cX11_ahead 63 = .ok (.aload_n 0, 1) := by decide +kernel
theorem dX11_ahead_64 : decode cX11_ahead 64 = .ok (.getfield 10, 3) := by decide +kernel
theorem dX11_ahead_67 : decode cX11_ahead 67 = .ok (.getfield 138, 3) := by decide +kernel
theorem dX11_ahead_70 : decode cX11_ahead 70 = .ok (.iload_n 3, 1) := by decide +kernel
theorem dX11_ahead_71 : decode cX11_ahead 71 = .ok (.invokevirtual 110, 3) := by decide +kernel
theorem dX11_ahead_46 : decode cX11_ahead 46 = .ok (.aload_n 0, 1) := by decide +kernel
theorem dX11_ahead_47 : decode cX11_ahead 47 = .ok (.getfield 10, 3) := by decide +kernel
theorem dX11_ahead_50 : decode cX11_ahead 50 = .ok (.getfield 229, 3) := by decide +kernel
theorem dX11_ahead_53 : decode cX11_ahead 53 = .ok (.iload_n 3, 1) := by decide +kernel
theorem dX11_ahead_54 : decode cX11_ahead 54 = .ok (.invokevirtual 110, 3) := by decide +kernel
theorem dX11_ahead_74 : decode cX11_ahead 74 = .ok (.ifCond .ne 9, 3) := by decide +kernel
theorem dX11_ahead_78 : decode cX11_ahead 78 = .ok (.iconst 1, 1) := by decide +kernel
theorem dX11_ahead_77 : decode cX11_ahead 77 = .ok (.aload_n 0, 1) := by decide +kernel
theorem dX11_ahead_79 : decode cX11_ahead 79 = .ok (.invokevirtual 94, 3) := by decide +kernel
theorem dX11_ahead_83 : decode cX11_ahead 83 = .ok (.aload_n 0, 1) := by decide +kernel
theorem dX11_ahead_84 : decode cX11_ahead 84 = .ok (.getfield 19, 3) := by decide +kernel
theorem dX11_ahead_87 : decode cX11_ahead 87 = .ok (.aload_n 0, 1) := by decide +kernel
theorem dX11_ahead_88 : decode cX11_ahead 88 = .ok (.getfield 10, 3) := by decide +kernel
theorem dX11_ahead_91 : decode cX11_ahead 91 = .ok (.invokevirtual 326, 3) := by decide +kernel
theorem dX11_ahead_57 : decode cX11_ahead 57 = .ok (.ifCond .ne 26, 3) := by decide +kernel
theorem dX11_ahead_60 : decode cX11_ahead 60 = .ok (.goto 17, 3) := by decide +kernel
theorem dX11_ahead_82 : decode cX11_ahead 82 = .ok (.ireturn, 1) := by decide +kernel
theorem dX11_ahead_95 : decode cX11_ahead 95 = .ok (.istore 4, 2) := by decide +kernel
theorem dX11_ahead_94 : decode cX11_ahead 94 = .ok (.iconst 0, 1) := by decide +kernel
theorem dX11_ahead_100 : decode cX11_ahead 100 = .ok (.if_icmp .ge 16, 3) := by decide +kernel
theorem dX11_ahead_99 : decode cX11_ahead 99 = .ok (.iload_n 1, 1) := by decide +kernel
theorem dX11_ahead_97 : decode cX11_ahead 97 = .ok (.iload 4, 2) := by decide +kernel
theorem dX11_ahead_116 : decode cX11_ahead 116 = .ok (.iload_n 2, 1) := by decide +kernel
theorem dX11_ahead_117 : decode cX11_ahead 117 = .ok (.tableswitch 101 0 4 #[35, 48, 61, 74, 88], 35) := by decide +kernel
theorem dX11_ahead_152 : decode cX11_ahead 152 = .ok (.aload_n 0, 1) := by decide +kernel
theorem dX11_ahead_153 : decode cX11_ahead 153 = .ok (.getfield 19, 3) := by decide +kernel
theorem dX11_ahead_156 : decode cX11_ahead 156 = .ok (.getfield 229, 3) := by decide +kernel
theorem dX11_ahead_160 : decode cX11_ahead 160 = .ok (.iconst 1, 1) := by decide +kernel
theorem dX11_ahead_159 : decode cX11_ahead 159 = .ok (.iload_n 3, 1) := by decide +kernel
theorem dX11_ahead_161 : decode cX11_ahead 161 = .ok (.invokevirtual 141, 3) := by decide +kernel
theorem dX11_ahead_165 : decode cX11_ahead 165 = .ok (.aload_n 0, 1) := by decide +kernel
theorem dX11_ahead_166 : decode cX11_ahead 166 = .ok (.getfield 19, 3) := by decide +kernel
theorem dX11_ahead_169 : decode cX11_ahead 169 = .ok (.getfield 229, 3) := by decide +kernel
theorem dX11_ahead_173 : decode cX11_ahead 173 = .ok (.iconst 2, 1) := by decide +kernel
theorem dX11_ahead_172 : decode cX11_ahead 172 = .ok (.iload_n 3, 1) := by decide +kernel
theorem dX11_ahead_174 : decode cX11_ahead 174 = .ok (.invokevirtual 141, 3) := by decide +kernel
theorem dX11_ahead_178 : decode cX11_ahead 178 = .ok (.aload_n 0, 1) := by decide +kernel
theorem dX11_ahead_179 : decode cX11_ahead 179 = .ok (.getfield 19, 3) := by decide +kernel
theorem dX11_ahead_182 : decode cX11_ahead 182 = .ok (.getfield 229, 3) := by decide +kernel
theorem dX11_ahead_186 : decode cX11_ahead 186 = .ok (.iconst 5, 1) := by decide +kernel
theorem dX11_ahead_185 : decode cX11_ahead 185 = .ok (.iload_n 3, 1) := by decide +kernel
theorem dX11_ahead_187 : decode cX11_ahead 187 = .ok (.invokevirtual 141, 3) := by decide +kernel
theorem dX11_ahead_191 : decode cX11_ahead 191 = .ok (.aload_n 0, 1) := by decide +kernel
theorem dX11_ahead_192 : decode cX11_ahead 192 = .ok (.getfield 19, 3) := by decide +kernel
theorem dX11_ahead_195 : decode cX11_ahead 195 = .ok (.getfield 229, 3) := by decide +kernel
theorem dX11_ahead_199 : decode cX11_ahead 199 = .ok (.bipush 6, 2) := by decide +kernel
theorem dX11_ahead_198 : decode cX11_ahead 198 = .ok (.iload_n 3, 1) := by decide +kernel
theorem dX11_ahead_201 : decode cX11_ahead 201 = .ok (.invokevirtual 141, 3) := by decide +kernel
theorem dX11_ahead_205 : decode cX11_ahead 205 = .ok (.aload_n 0, 1) := by decide +kernel
theorem dX11_ahead_206 : decode cX11_ahead 206 = .ok (.getfield 19, 3) := by decide +kernel
theorem dX11_ahead_209 : decode cX11_ahead 209 = .ok (.getfield 138, 3) := by decide +kernel
theorem dX11_ahead_213 : decode cX11_ahead 213 = .ok (.iconst 2, 1) := by decide +kernel
theorem dX11_ahead_212 : decode cX11_ahead 212 = .ok (.iload_n 3, 1) := by decide +kernel
theorem dX11_ahead_214 : decode cX11_ahead 214 = .ok (.invokevirtual 141, 3) := by decide +kernel
theorem dX11_ahead_218 : decode cX11_ahead 218 = .ok (.aload_n 0, 1) := by decide +kernel
theorem dX11_ahead_219 : decode cX11_ahead 219 = .ok (.getfield 19, 3) := by decide +kernel
theorem dX11_ahead_222 : decode cX11_ahead 222 = .ok (.getfield 138, 3) := by decide +kernel
theorem dX11_ahead_226 : decode cX11_ahead 226 = .ok (.iconst 3, 1) := by decide +kernel
theorem dX11_ahead_225 : decode cX11_ahead 225 = .ok (.iload_n 3, 1) := by decide +kernel
theorem dX11_ahead_227 : decode cX11_ahead 227 = .ok (.invokevirtual 141, 3) := by decide +kernel
theorem dX11_ahead_103 : decode cX11_ahead 103 = .ok (.aload_n 0, 1) := by decide +kernel
theorem dX11_ahead_104 : decode cX11_ahead 104 = .ok (.getfield 19, 3) := by decide +kernel
theorem dX11_ahead_107 : decode cX11_ahead 107 = .ok (.invokestatic 320, 3) := by decide +kernel
theorem dX11_ahead_164 : decode cX11_ahead 164 = .ok (.ireturn, 1) := by decide +kernel
theorem dX11_ahead_177 : decode cX11_ahead 177 = .ok (.ireturn, 1) := by decide +kernel
theorem dX11_ahead_190 : decode cX11_ahead 190 = .ok (.ireturn, 1) := by decide +kernel
theorem dX11_ahead_204 : decode cX11_ahead 204 = .ok (.ireturn, 1) := by decide +kernel
theorem dX11_ahead_217 : decode cX11_ahead 217 = .ok (.ireturn, 1) := by decide +kernel
theorem dX11_ahead_230 : decode cX11_ahead 230 = .ok (.ireturn, 1) := by decide +kernel
theorem dX11_ahead_113 : decode cX11_ahead 113 = .ok (.goto (-16), 3) := by decide +kernel
theorem dX11_ahead_110 : decode cX11_ahead 110 = .ok (.iinc 4 1, 3) := by decide +kernel
theorem dX11_voice_0 : decode cX11_voice 0 = .ok (.aload_n 0, 1) := by decide +kernel
theorem dX11_voice_1 : decode cX11_voice 1 = .ok (.getfield 10, 3) := by decide +kernel
theorem dX11_voice_4 : decode cX11_voice 4 = .ok (.getfield 229, 3) := by decide +kernel
theorem dX11_voice_7 : decode cX11_voice 7 = .ok (.iload_n 1, 1) := by decide +kernel
theorem dX11_voice_8 : decode cX11_voice 8 = .ok (.invokevirtual 110, 3) := by decide +kernel
theorem dX11_voice_11 : decode cX11_voice 11 = .ok (.ifCond .eq 12, 3) := by decide +kernel
theorem dX11_voice_24 : decode cX11_voice 24 = .ok (.iconst 1, 1) := by decide +kernel
theorem dX11_voice_23 : decode cX11_voice 23 = .ok (.aload_n 0, 1) := by decide +kernel
theorem dX11_voice_25 : decode cX11_voice 25 = .ok (.invokevirtual 94, 3) := by decide +kernel
theorem dX11_voice_16 : decode cX11_voice 16 = .ok (.iconst 3, 1) := by decide +kernel
theorem dX11_voice_15 : decode cX11_voice 15 = .ok (.iconst 0, 1) := by decide +kernel
theorem dX11_voice_14 : decode cX11_voice 14 = .ok (.iload_n 2, 1) := by decide +kernel
theorem dX11_voice_17 : decode cX11_voice 17 = .ok (.invokestatic 90, 3) := by decide +kernel
theorem dX11_voice_28 : decode cX11_voice 28 = .ok (.ireturn, 1) := by decide +kernel
theorem dX11_voice_20 : decode cX11_voice 20 = .ok (.ifCond .ne 9, 3) := by decide +kernel
theorem dX11_voice_29 : decode cX11_voice 29 = .ok (.aload_n 0, 1) := by decide +kernel
theorem dX11_voice_30 : decode cX11_voice 30 = .ok (.getfield 72, 3) := by decide +kernel
theorem dX11_voice_33 : decode cX11_voice 33 = .ok (.aload_n 0, 1) := by decide +kernel
theorem dX11_voice_34 : decode cX11_voice 34 = .ok (.getfield 10, 3) := by decide +kernel
theorem dX11_voice_37 : decode cX11_voice 37 = .ok (.getfield 229, 3) := by decide +kernel
theorem dX11_voice_41 : decode cX11_voice 41 = .ok (.iconst 0, 1) := by decide +kernel
theorem dX11_voice_40 : decode cX11_voice 40 = .ok (.iload_n 1, 1) := by decide +kernel
theorem dX11_voice_42 : decode cX11_voice 42 = .ok (.invokevirtual 141, 3) := by decide +kernel
theorem dX11_voice_46 : decode cX11_voice 46 = .ok (.aload_n 0, 1) := by decide +kernel
theorem dX11_voice_45 : decode cX11_voice 45 = .ok (.iload_n 1, 1) := by decide +kernel
theorem dX11_voice_47 : decode cX11_voice 47 = .ok (.getfield 10, 3) := by decide +kernel
theorem dX11_voice_50 : decode cX11_voice 50 = .ok (.getfield 229, 3) := by decide +kernel
theorem dX11_voice_54 : decode cX11_voice 54 = .ok (.iconst 5, 1) := by decide +kernel
theorem dX11_voice_53 : decode cX11_voice 53 = .ok (.iload_n 1, 1) := by decide +kernel
theorem dX11_voice_55 : decode cX11_voice 55 = .ok (.invokevirtual 141, 3) := by decide +kernel
theorem dX11_voice_58 : decode cX11_voice 58 = .ok (.invokevirtual 329, 3) := by decide +kernel
theorem dX11_voice_61 : decode cX11_voice 61 = .ok (.aload_n 0, 1) := by decide +kernel
theorem dX11_voice_62 : decode cX11_voice 62 = .ok (.getfield 72, 3) := by decide +kernel
theorem dX11_voice_66 : decode cX11_voice 66 = .ok (.iload_n 3, 1) := by decide +kernel
theorem dX11_voice_65 : decode cX11_voice 65 = .ok (.iload_n 2, 1) := by decide +kernel
theorem dX11_voice_67 : decode cX11_voice 67 = .ok (.invokevirtual 331, 3) := by decide +kernel
theorem dX11_voice_70 : decode cX11_voice 70 = .ok (.ireturn, 1) := by decide +kernel
theorem dX11_trace_0 : decode cX11_trace 0 = .ok (.aload_n 0, 1) := by decide +kernel
theorem dX11_trace_1 : decode cX11_trace 1 = .ok (.getfield 72, 3) := by decide +kernel
theorem dX11_trace_4 : decode cX11_trace 4 = .ok (.getfield 334, 3) := by decide +kernel
theorem dX11_trace_7 : decode cX11_trace 7 = .ok (.iload_n 1, 1) := by decide +kernel
theorem dX11_trace_8 : decode cX11_trace 8 = .ok (.invokevirtual 110, 3) := by decide +kernel
theorem dX11_trace_11 : decode cX11_trace 11 = .ok (.ifCond .eq 18, 3) := by decide +kernel
theorem dX11_trace_30 : decode cX11_trace 30 = .ok (.iconst 2, 1) := by decide +kernel
theorem dX11_trace_29 : decode cX11_trace 29 = .ok (.aload_n 0, 1) := by decide +kernel
theorem dX11_trace_31 : decode cX11_trace 31 = .ok (.invokevirtual 94, 3) := by decide +kernel
theorem dX11_trace_14 : decode cX11_trace 14 = .ok (.aload_n 0, 1) := by decide +kernel
theorem dX11_trace_15 : decode cX11_trace 15 = .ok (.getfield 72, 3) := by decide +kernel
theorem dX11_trace_18 : decode cX11_trace 18 = .ok (.getfield 334, 3) := by decide +kernel
theorem dX11_trace_22 : decode cX11_trace 22 = .ok (.iconst 0, 1) := by decide +kernel
theorem dX11_trace_21 : decode cX11_trace 21 = .ok (.iload_n 1, 1) := by decide +kernel
theorem dX11_trace_23 : decode cX11_trace 23 = .ok (.invokevirtual 141, 3) := by decide +kernel
theorem dX11_trace_34 : decode cX11_trace 34 = .ok (.ireturn, 1) := by decide +kernel
theorem dX11_trace_26 : decode cX11_trace 26 = .ok (.goto 8, 3) := by decide +kernel
theorem dX11_sheet_0 : decode cX11_sheet 0 = .ok (.aload_n 0, 1) := by decide +kernel
theorem dX11_sheet_1 : decode cX11_sheet 1 = .ok (.getfield 44, 3) := by decide +kernel
theorem dX11_sheet_4 : decode cX11_sheet 4 = .ok (.iload_n 1, 1) := by decide +kernel
theorem dX11_sheet_5 : decode cX11_sheet 5 = .ok (.invokevirtual 305, 3) := by decide +kernel
theorem dX11_sheet_8 : decode cX11_sheet 8 = .ok (.ifCond .eq 25, 3) := by decide +kernel
theorem dX11_sheet_34 : decode cX11_sheet 34 = .ok (.iconst 1, 1) := by decide +kernel
theorem dX11_sheet_33 : decode cX11_sheet 33 = .ok (.aload_n 0, 1) := by decide +kernel
theorem dX11_sheet_35 : decode cX11_sheet 35 = .ok (.invokevirtual 94, 3) := by decide +kernel
theorem dX11_sheet_12 : decode cX11_sheet 12 = .ok (.ifCond .eq 27, 3) := by decide +kernel
theorem dX11_sheet_11 : decode cX11_sheet 11 = .ok (.iload_n 2, 1) := by decide +kernel
theorem dX11_sheet_40 : decode cX11_sheet 40 = .ok (.ifCond .eq 13, 3) := by decide +kernel
theorem dX11_sheet_39 : decode cX11_sheet 39 = .ok (.iload_n 2, 1) := by decide +kernel
theorem dX11_sheet_54 : decode cX11_sheet 54 = .ok (.ifCond .eq 15, 3) := by decide +kernel
theorem dX11_sheet_53 : decode cX11_sheet 53 = .ok (.iload_n 2, 1) := by decide +kernel
theorem dX11_sheet_69 : decode cX11_sheet 69 = .ok (.aload_n 0, 1) := by decide +kernel
theorem dX11_sheet_70 : decode cX11_sheet 70 = .ok (.getfield 44, 3) := by decide +kernel
theorem dX11_sheet_76 : decode cX11_sheet 76 = .ok (.ifCond .ne 7, 3) := by decide +kernel
theorem dX11_sheet_75 : decode cX11_sheet 75 = .ok (.iload_n 2, 1) := by decide +kernel
theorem dX11_sheet_74 : decode cX11_sheet 74 = .ok (.iload_n 2, 1) := by decide +kernel
theorem dX11_sheet_73 : decode cX11_sheet 73 = .ok (.iload_n 1, 1) := by decide +kernel
theorem dX11_sheet_80 : decode cX11_sheet 80 = .ok (.goto 4, 3) := by decide +kernel
theorem dX11_sheet_79 : decode cX11_sheet 79 = .ok (.iconst 0, 1) := by decide +kernel
theorem dX11_sheet_84 : decode cX11_sheet 84 = .ok (.invokevirtual 337, 3) := by decide +kernel
theorem dX11_sheet_83 : decode cX11_sheet 83 = .ok (.iload_n 3, 1) := by decide +kernel
theorem dX11_sheet_60 : decode cX11_sheet 60 = .ok (.if_icmp .le 9, 3) := by decide +kernel
theorem dX11_sheet_58 : decode cX11_sheet 58 = .ok (.bipush 24, 2) := by decide +kernel
theorem dX11_sheet_57 : decode cX11_sheet 57 = .ok (.iload_n 3, 1) := by decide +kernel
theorem dX11_sheet_64 : decode cX11_sheet 64 = .ok (.iconst 1, 1) := by decide +kernel
theorem dX11_sheet_63 : decode cX11_sheet 63 = .ok (.aload_n 0, 1) := by decide +kernel
theorem dX11_sheet_65 : decode cX11_sheet 65 = .ok (.invokevirtual 94, 3) := by decide +kernel
theorem dX11_sheet_44 : decode cX11_sheet 44 = .ok (.ifCond .ge 9, 3) := by decide +kernel
theorem dX11_sheet_43 : decode cX11_sheet 43 = .ok (.iload_n 3, 1) := by decide +kernel
theorem dX11_sheet_48 : decode cX11_sheet 48 = .ok (.iconst 3, 1) := by decide +kernel
theorem dX11_sheet_47 : decode cX11_sheet 47 = .ok (.aload_n 0, 1) := by decide +kernel
theorem dX11_sheet_49 : decode cX11_sheet 49 = .ok (.invokevirtual 94, 3) := by decide +kernel
theorem dX11_sheet_18 : decode cX11_sheet 18 = .ok (.if_icmp .eq 21, 3) := by decide +kernel
theorem dX11_sheet_16 : decode cX11_sheet 16 = .ok (.bipush 8, 2) := by decide +kernel
theorem dX11_sheet_15 : decode cX11_sheet 15 = .ok (.iload_n 2, 1) := by decide +kernel
theorem dX11_sheet_24 : decode cX11_sheet 24 = .ok (.if_icmp .eq 15, 3) := by decide +kernel
theorem dX11_sheet_22 : decode cX11_sheet 22 = .ok (.bipush 16, 2) := by decide +kernel
theorem dX11_sheet_21 : decode cX11_sheet 21 = .ok (.iload_n 2, 1) := by decide +kernel
theorem dX11_sheet_30 : decode cX11_sheet 30 = .ok (.if_icmp .eq 9, 3) := by decide +kernel
theorem dX11_sheet_28 : decode cX11_sheet 28 = .ok (.bipush 32, 2) := by decide +kernel
theorem dX11_sheet_27 : decode cX11_sheet 27 = .ok (.iload_n 2, 1) := by decide +kernel
theorem dX11_sheet_38 : decode cX11_sheet 38 = .ok (.ireturn, 1) := by decide +kernel
theorem dX11_sheet_87 : decode cX11_sheet 87 = .ok (.iconst 1, 1) := by decide +kernel
theorem dX11_sheet_88 : decode cX11_sheet 88 = .ok (.ireturn, 1) := by decide +kernel
theorem dX11_sheet_68 : decode cX11_sheet 68 = .ok (.ireturn, 1) := by decide +kernel
theorem dX11_sheet_52 : decode cX11_sheet 52 = .ok (.ireturn, 1) := by decide +kernel
theorem dX11_put_0 : decode cX11_put 0 = .ok (.aload_n 0, 1) := by decide +kernel
theorem dX11_put_1 : decode cX11_put 1 = .ok (.getfield 44, 3) := by decide +kernel
theorem dX11_put_4 : decode cX11_put 4 = .ok (.iload_n 1, 1) := by decide +kernel
theorem dX11_put_5 : decode cX11_put 5 = .ok (.invokevirtual 158, 3) := by decide +kernel
theorem dX11_put_12 : decode cX11_put 12 = .ok (.ifCond .eq 10, 3) := by decide +kernel
theorem dX11_put_10 : decode cX11_put 10 = .ok (.iload 4, 2) := by decide +kernel
theorem dX11_put_8 : decode cX11_put 8 = .ok (.istore 4, 2) := by decide +kernel
theorem dX11_put_24 : decode cX11_put 24 = .ok (.aload_n 0, 1) := by decide +kernel
theorem dX11_put_23 : decode cX11_put 23 = .ok (.iconst 0, 1) := by decide +kernel
theorem dX11_put_22 : decode cX11_put 22 = .ok (.iload_n 2, 1) := by decide +kernel
theorem dX11_put_25 : decode cX11_put 25 = .ok (.getfield 44, 3) := by decide +kernel
theorem dX11_put_28 : decode cX11_put 28 = .ok (.iload_n 1, 1) := by decide +kernel
theorem dX11_put_29 : decode cX11_put 29 = .ok (.invokevirtual 161, 3) := by decide +kernel
theorem dX11_put_16 : decode cX11_put 16 = .ok (.iload 4, 2) := by decide +kernel
theorem dX11_put_15 : decode cX11_put 15 = .ok (.aload_n 0, 1) := by decide +kernel
theorem dX11_put_18 : decode cX11_put 18 = .ok (.invokevirtual 94, 3) := by decide +kernel
theorem dX11_put_33 : decode cX11_put 33 = .ok (.isub, 1) := by decide +kernel
theorem dX11_put_32 : decode cX11_put 32 = .ok (.iconst 1, 1) := by decide +kernel
theorem dX11_put_34 : decode cX11_put 34 = .ok (.invokestatic 90, 3) := by decide +kernel
theorem dX11_put_21 : decode cX11_put 21 = .ok (.ireturn, 1) := by decide +kernel
theorem dX11_put_37 : decode cX11_put 37 = .ok (.ifCond .ne 9, 3) := by decide +kernel
theorem dX11_put_41 : decode cX11_put 41 = .ok (.iconst 1, 1) := by decide +kernel
theorem dX11_put_40 : decode cX11_put 40 = .ok (.aload_n 0, 1) := by decide +kernel
theorem dX11_put_42 : decode cX11_put 42 = .ok (.invokevirtual 94, 3) := by decide +kernel
theorem dX11_put_46 : decode cX11_put 46 = .ok (.aload_n 0, 1) := by decide +kernel
theorem dX11_put_47 : decode cX11_put 47 = .ok (.getfield 44, 3) := by decide +kernel
theorem dX11_put_52 : decode cX11_put 52 = .ok (.iload_n 3, 1) := by decide +kernel
theorem dX11_put_51 : decode cX11_put 51 = .ok (.iload_n 2, 1) := by decide +kernel
theorem dX11_put_50 : decode cX11_put 50 = .ok (.iload_n 1, 1) := by decide +kernel
theorem dX11_put_53 : decode cX11_put 53 = .ok (.invokevirtual 339, 3) := by decide +kernel
theorem dX11_put_45 : decode cX11_put 45 = .ok (.ireturn, 1) := by decide +kernel
theorem dX11_put_56 : decode cX11_put 56 = .ok (.iconst 1, 1) := by decide +kernel
theorem dX11_put_57 : decode cX11_put 57 = .ok (.ireturn, 1) := by decide +kernel
theorem dX11_move_0 : decode cX11_move 0 = .ok (.aload_n 0, 1) := by decide +kernel
theorem dX11_move_1 : decode cX11_move 1 = .ok (.getfield 44, 3) := by decide +kernel
theorem dX11_move_4 : decode cX11_move 4 = .ok (.iload_n 1, 1) := by decide +kernel
theorem dX11_move_5 : decode cX11_move 5 = .ok (.invokevirtual 305, 3) := by decide +kernel
theorem dX11_move_8 : decode cX11_move 8 = .ok (.ifCond .eq 14, 3) := by decide +kernel
theorem dX11_move_23 : decode cX11_move 23 = .ok (.iconst 1, 1) := by decide +kernel
theorem dX11_move_22 : decode cX11_move 22 = .ok (.aload_n 0, 1) := by decide +kernel
theorem dX11_move_24 : decode cX11_move 24 = .ok (.invokevirtual 94, 3) := by decide +kernel
theorem dX11_move_11 : decode cX11_move 11 = .ok (.aload_n 0, 1) := by decide +kernel
theorem dX11_move_12 : decode cX11_move 12 = .ok (.getfield 44, 3) := by decide +kernel
theorem dX11_move_15 : decode cX11_move 15 = .ok (.iload_n 3, 1) := by decide +kernel
theorem dX11_move_16 : decode cX11_move 16 = .ok (.invokevirtual 305, 3) := by decide +kernel
theorem dX11_move_27 : decode cX11_move 27 = .ok (.ireturn, 1) := by decide +kernel
theorem dX11_move_19 : decode cX11_move 19 = .ok (.ifCond .ne 9, 3) := by decide +kernel
theorem dX11_move_28 : decode cX11_move 28 = .ok (.aload_n 0, 1) := by decide +kernel
theorem dX11_move_29 : decode cX11_move 29 = .ok (.getfield 44, 3) := by decide +kernel
theorem dX11_move_32 : decode cX11_move 32 = .ok (.iload_n 1, 1) := by decide +kernel
theorem dX11_move_33 : decode cX11_move 33 = .ok (.invokevirtual 158, 3) := by decide +kernel
theorem dX11_move_36 : decode cX11_move 36 = .ok (.ifCond .ne 14, 3) := by decide +kernel
theorem dX11_move_39 : decode cX11_move 39 = .ok (.aload_n 0, 1) := by decide +kernel
theorem dX11_move_40 : decode cX11_move 40 = .ok (.getfield 44, 3) := by decide +kernel
theorem dX11_move_43 : decode cX11_move 43 = .ok (.iload_n 3, 1) := by decide +kernel
theorem dX11_move_44 : decode cX11_move 44 = .ok (.invokevirtual 158, 3) := by decide +kernel
theorem dX11_move_51 : decode cX11_move 51 = .ok (.iconst 2, 1) := by decide +kernel
theorem dX11_move_50 : decode cX11_move 50 = .ok (.aload_n 0, 1) := by decide +kernel
theorem dX11_move_52 : decode cX11_move 52 = .ok (.invokevirtual 94, 3) := by decide +kernel
theorem dX11_move_47 : decode cX11_move 47 = .ok (.ifCond .eq 9, 3) := by decide +kernel
theorem dX11_move_56 : decode cX11_move 56 = .ok (.aload_n 0, 1) := by decide +kernel
theorem dX11_move_57 : decode cX11_move 57 = .ok (.getfield 44, 3) := by decide +kernel
theorem dX11_move_60 : decode cX11_move 60 = .ok (.iload_n 1, 1) := by decide +kernel
theorem dX11_move_61 : decode cX11_move 61 = .ok (.invokevirtual 340, 3) := by decide +kernel
theorem dX11_move_55 : decode cX11_move 55 = .ok (.ireturn, 1) := by decide +kernel
theorem dX11_move_64 : decode cX11_move 64 = .ok (.aload_n 0, 1) := by decide +kernel
theorem dX11_move_65 : decode cX11_move 65 = .ok (.getfield 44, 3) := by decide +kernel
theorem dX11_move_68 : decode cX11_move 68 = .ok (.iload_n 3, 1) := by decide +kernel
theorem dX11_move_69 : decode cX11_move 69 = .ok (.invokevirtual 340, 3) := by decide +kernel
theorem dX11_move_72 : decode cX11_move 72 = .ok (.if_icmp .eq 9, 3) := by decide +kernel
theorem dX11_move_81 : decode cX11_move 81 = .ok (.aload_n 0, 1) := by decide +kernel
theorem dX11_move_82 : decode cX11_move 82 = .ok (.getfield 44, 3) := by decide +kernel
theorem dX11_move_90 : decode cX11_move 90 = .ok (.iload 5, 2) := by decide +kernel
theorem dX11_move_88 : decode cX11_move 88 = .ok (.iload 4, 2) := by decide +kernel
theorem dX11_move_87 : decode cX11_move 87 = .ok (.iload_n 3, 1) := by decide +kernel
theorem dX11_move_86 : decode cX11_move 86 = .ok (.iload_n 2, 1) := by decide +kernel
theorem dX11_move_85 : decode cX11_move 85 = .ok (.iload_n 1, 1) := by decide +kernel
theorem dX11_move_92 : decode cX11_move 92 = .ok (.invokevirtual 343, 3) := by decide +kernel
theorem dX11_move_76 : decode cX11_move 76 = .ok (.iconst 5, 1) := by decide +kernel
theorem dX11_move_75 : decode cX11_move 75 = .ok (.aload_n 0, 1) := by decide +kernel
theorem dX11_move_77 : decode cX11_move 77 = .ok (.invokevirtual 94, 3) := by decide +kernel
theorem dX11_move_95 : decode cX11_move 95 = .ok (.ifCond .eq 8, 3) := by decide +kernel
theorem dX11_move_104 : decode cX11_move 104 = .ok (.iconst 1, 1) := by decide +kernel
theorem dX11_move_103 : decode cX11_move 103 = .ok (.aload_n 0, 1) := by decide +kernel
theorem dX11_move_105 : decode cX11_move 105 = .ok (.invokevirtual 94, 3) := by decide +kernel
theorem dX11_move_100 : decode cX11_move 100 = .ok (.goto 8, 3) := by decide +kernel
theorem dX11_move_98 : decode cX11_move 98 = .ok (.iload 5, 2) := by decide +kernel
theorem dX11_move_108 : decode cX11_move 108 = .ok (.ireturn, 1) := by decide +kernel
theorem dX11_move_80 : decode cX11_move 80 = .ok (.ireturn, 1) := by decide +kernel
theorem dX11_image_0 : decode cX11_image 0 = .ok (.aload_n 0, 1) := by decide +kernel
theorem dX11_image_1 : decode cX11_image 1 = .ok (.getfield 16, 3) := by decide +kernel
theorem dX11_image_4 : decode cX11_image 4 = .ok (.aload_n 0, 1) := by decide +kernel
theorem dX11_image_5 : decode cX11_image 5 = .ok (.getfield 10, 3) := by decide +kernel
theorem dX11_image_8 : decode cX11_image 8 = .ok (.invokevirtual 326, 3) := by decide +kernel
theorem dX11_image_12 : decode cX11_image 12 = .ok (.dup, 1) := by decide +kernel
theorem dX11_image_11 : decode cX11_image 11 = .ok (.aload_n 0, 1) := by decide +kernel
theorem dX11_image_13 : decode cX11_image 13 = .ok (.getfield 80, 3) := by decide +kernel
theorem dX11_image_17 : decode cX11_image 17 = .ok (.iadd, 1) := by decide +kernel
theorem dX11_image_16 : decode cX11_image 16 = .ok (.iconst 1, 1) := by decide +kernel
theorem dX11_image_18 : decode cX11_image 18 = .ok (.putfield 80, 3) := by decide +kernel
theorem dX11_image_21 : decode cX11_image 21 = .ok (.aload_n 0, 1) := by decide +kernel
theorem dX11_image_22 : decode cX11_image 22 = .ok (.getfield 80, 3) := by decide +kernel
theorem dX11_image_25 : decode cX11_image 25 = .ok (.ireturn, 1) := by decide +kernel
theorem dX11_restore_0 : decode cX11_restore 0 = .ok (.aload_n 0, 1) := by decide +kernel
theorem dX11_restore_1 : decode cX11_restore 1 = .ok (.getfield 80, 3) := by decide +kernel
theorem dX11_restore_4 : decode cX11_restore 4 = .ok (.ifCond .ne 9, 3) := by decide +kernel
theorem dX11_restore_8 : decode cX11_restore 8 = .ok (.iconst 2, 1) := by decide +kernel
theorem dX11_restore_7 : decode cX11_restore 7 = .ok (.aload_n 0, 1) := by decide +kernel
theorem dX11_restore_9 : decode cX11_restore 9 = .ok (.invokevirtual 94, 3) := by decide +kernel
theorem dX11_restore_13 : decode cX11_restore 13 = .ok (.aload_n 0, 1) := by decide +kernel
theorem dX11_restore_14 : decode cX11_restore 14 = .ok (.getfield 10, 3) := by decide +kernel
theorem dX11_restore_17 : decode cX11_restore 17 = .ok (.aload_n 0, 1) := by decide +kernel
theorem dX11_restore_18 : decode cX11_restore 18 = .ok (.getfield 16, 3) := by decide +kernel
theorem dX11_restore_21 : decode cX11_restore 21 = .ok (.invokevirtual 326, 3) := by decide +kernel
theorem dX11_restore_12 : decode cX11_restore 12 = .ok (.ireturn, 1) := by decide +kernel
theorem dX11_restore_24 : decode cX11_restore 24 = .ok (.aload_n 0, 1) := by decide +kernel
theorem dX11_restore_25 : decode cX11_restore 25 = .ok (.getfield 10, 3) := by decide +kernel
theorem dX11_restore_28 : decode cX11_restore 28 = .ok (.getfield 280, 3) := by decide +kernel
theorem dX11_restore_31 : decode cX11_restore 31 = .ok (.ireturn, 1) := by decide +kernel
theorem dX11_tell_0 : decode cX11_tell 0 = .ok (.aload_n 0, 1) := by decide +kernel
theorem dX11_tell_1 : decode cX11_tell 1 = .ok (.getfield 10, 3) := by decide +kernel
theorem dX11_tell_4 : decode cX11_tell 4 = .ok (.getfield 347, 3) := by decide +kernel
theorem dX11_tell_7 : decode cX11_tell 7 = .ok (.iload_n 1, 1) := by decide +kernel
theorem dX11_tell_8 : decode cX11_tell 8 = .ok (.invokevirtual 101, 3) := by decide +kernel
theorem dX11_tell_11 : decode cX11_tell 11 = .ok (.ifCond .ge 9, 3) := by decide +kernel
theorem dX11_tell_20 : decode cX11_tell 20 = .ok (.aload_n 0, 1) := by decide +kernel
theorem dX11_tell_21 : decode cX11_tell 21 = .ok (.getfield 10, 3) := by decide +kernel
theorem dX11_tell_24 : decode cX11_tell 24 = .ok (.getfield 347, 3) := by decide +kernel
theorem dX11_tell_27 : decode cX11_tell 27 = .ok (.invokevirtual 168, 3) := by decide +kernel
theorem dX11_tell_15 : decode cX11_tell 15 = .ok (.iconst 4, 1) := by decide +kernel
theorem dX11_tell_14 : decode cX11_tell 14 = .ok (.aload_n 0, 1) := by decide +kernel
theorem dX11_tell_16 : decode cX11_tell 16 = .ok (.invokevirtual 94, 3) := by decide +kernel
theorem dX11_tell_30 : decode cX11_tell 30 = .ok (.ireturn, 1) := by decide +kernel
theorem dX11_tell_19 : decode cX11_tell 19 = .ok (.ireturn, 1) := by decide +kernel
theorem dX11_check_0 : decode cX11_check 0 = .ok (.aload_n 0, 1) := by decide +kernel
theorem dX11_check_1 : decode cX11_check 1 = .ok (.invokevirtual 350, 3) := by decide +kernel
theorem dX11_check_5 : decode cX11_check 5 = .ok (.aload_n 0, 1) := by decide +kernel
theorem dX11_check_4 : decode cX11_check 4 = .ok (.istore_n 1, 1) := by decide +kernel
theorem dX11_check_6 : decode cX11_check 6 = .ok (.getfield 10, 3) := by decide +kernel
theorem dX11_check_9 : decode cX11_check 9 = .ok (.getfield 347, 3) := by decide +kernel
theorem dX11_check_12 : decode cX11_check 12 = .ok (.invokevirtual 260, 3) := by decide +kernel
theorem dX11_check_17 : decode cX11_check 17 = .ok (.iadd, 1) := by decide +kernel
theorem dX11_check_16 : decode cX11_check 16 = .ok (.iconst 1, 1) := by decide +kernel
theorem dX11_check_15 : decode cX11_check 15 = .ok (.iload_n 1, 1) := by decide +kernel
theorem dX11_check_18 : decode cX11_check 18 = .ok (.ireturn, 1) := by decide +kernel
theorem dX11_firstUntrue_1 : decode cX11_firstUntrue 1 = .ok (.istore_n 1, 1) := by decide +kernel
theorem dX11_firstUntrue_0 : decode cX11_firstUntrue 0 = .ok (.iconst 0, 1) := by decide +kernel
theorem dX11_firstUntrue_3 : decode cX11_firstUntrue 3 = .ok (.aload_n 0, 1) := by decide +kernel
theorem dX11_firstUntrue_2 : decode cX11_firstUntrue 2 = .ok (.iload_n 1, 1) := by decide +kernel
theorem dX11_firstUntrue_4 : decode cX11_firstUntrue 4 = .ok (.getfield 10, 3) := by decide +kernel
theorem dX11_firstUntrue_7 : decode cX11_firstUntrue 7 = .ok (.getfield 347, 3) := by decide +kernel
theorem dX11_firstUntrue_10 : decode cX11_firstUntrue 10 = .ok (.invokevirtual 168, 3) := by decide +kernel
theorem dX11_firstUntrue_13 : decode cX11_firstUntrue 13 = .ok (.if_icmp .ge 52, 3) := by decide +kernel
theorem dX11_firstUntrue_65 : decode cX11_firstUntrue 65 = .ok (.iconst (-1), 1) := by decide +kernel
theorem dX11_firstUntrue_66 : decode cX11_firstUntrue 66 = .ok (.ireturn, 1) := by decide +kernel
theorem dX11_firstUntrue_16 : decode cX11_firstUntrue 16 = .ok (.aload_n 0, 1) := by decide +kernel
theorem dX11_firstUntrue_17 : decode cX11_firstUntrue 17 = .ok (.getfield 10, 3) := by decide +kernel
theorem dX11_firstUntrue_20 : decode cX11_firstUntrue 20 = .ok (.getfield 229, 3) := by decide +kernel
theorem dX11_firstUntrue_23 : decode cX11_firstUntrue 23 = .ok (.iload_n 1, 1) := by decide +kernel
theorem dX11_firstUntrue_24 : decode cX11_firstUntrue 24 = .ok (.invokevirtual 110, 3) := by decide +kernel
theorem dX11_firstUntrue_27 : decode cX11_firstUntrue 27 = .ok (.ifCond .eq 30, 3) := by decide +kernel
theorem dX11_firstUntrue_57 : decode cX11_firstUntrue 57 = .ok (.iload_n 1, 1) := by decide +kernel
theorem dX11_firstUntrue_58 : decode cX11_firstUntrue 58 = .ok (.ireturn, 1) := by decide +kernel
theorem dX11_firstUntrue_30 : decode cX11_firstUntrue 30 = .ok (.aload_n 0, 1) := by decide +kernel
theorem dX11_firstUntrue_31 : decode cX11_firstUntrue 31 = .ok (.getfield 10, 3) := by decide +kernel
theorem dX11_firstUntrue_34 : decode cX11_firstUntrue 34 = .ok (.getfield 229, 3) := by decide +kernel
theorem dX11_firstUntrue_38 : decode cX11_firstUntrue 38 = .ok (.iconst 5, 1) := by decide +kernel
theorem dX11_firstUntrue_37 : decode cX11_firstUntrue 37 = .ok (.iload_n 1, 1) := by decide +kernel
theorem dX11_firstUntrue_39 : decode cX11_firstUntrue 39 = .ok (.invokevirtual 141, 3) := by decide +kernel
theorem dX11_firstUntrue_42 : decode cX11_firstUntrue 42 = .ok (.aload_n 0, 1) := by decide +kernel
theorem dX11_firstUntrue_43 : decode cX11_firstUntrue 43 = .ok (.getfield 10, 3) := by decide +kernel
theorem dX11_firstUntrue_46 : decode cX11_firstUntrue 46 = .ok (.getfield 347, 3) := by decide +kernel
theorem dX11_firstUntrue_50 : decode cX11_firstUntrue 50 = .ok (.iconst 0, 1) := by decide +kernel
theorem dX11_firstUntrue_49 : decode cX11_firstUntrue 49 = .ok (.iload_n 1, 1) := by decide +kernel
theorem dX11_firstUntrue_51 : decode cX11_firstUntrue 51 = .ok (.invokevirtual 141, 3) := by decide +kernel
theorem dX11_firstUntrue_54 : decode cX11_firstUntrue 54 = .ok (.if_icmp .eq 5, 3) := by decide +kernel
theorem dX11_firstUntrue_62 : decode cX11_firstUntrue 62 = .ok (.goto (-60), 3) := by decide +kernel
theorem dX11_firstUntrue_59 : decode cX11_firstUntrue 59 = .ok (.iinc 1 1, 3) := by decide +kernel
theorem dX11_count_0 : decode cX11_count 0 = .ok (.iload_n 1, 1) := by decide +kernel
theorem dX11_count_1 : decode cX11_count 1 = .ok (.tableswitch 255 0 15 #[79, 90, 101, 112, 123, 134, 145, 159, 167, 181, 192, 203, 213, 223, 235, 247], 79) := by decide +kernel
theorem dX11_count_80 : decode cX11_count 80 = .ok (.aload_n 0, 1) := by decide +kernel
theorem dX11_count_81 : decode cX11_count 81 = .ok (.getfield 10, 3) := by decide +kernel
theorem dX11_count_84 : decode cX11_count 84 = .ok (.getfield 98, 3) := by decide +kernel
theorem dX11_count_87 : decode cX11_count 87 = .ok (.invokevirtual 168, 3) := by decide +kernel
theorem dX11_count_91 : decode cX11_count 91 = .ok (.aload_n 0, 1) := by decide +kernel
theorem dX11_count_92 : decode cX11_count 92 = .ok (.getfield 10, 3) := by decide +kernel
theorem dX11_count_95 : decode cX11_count 95 = .ok (.getfield 117, 3) := by decide +kernel
theorem dX11_count_98 : decode cX11_count 98 = .ok (.invokevirtual 168, 3) := by decide +kernel
theorem dX11_count_102 : decode cX11_count 102 = .ok (.aload_n 0, 1) := by decide +kernel
theorem dX11_count_103 : decode cX11_count 103 = .ok (.getfield 10, 3) := by decide +kernel
theorem dX11_count_106 : decode cX11_count 106 = .ok (.getfield 165, 3) := by decide +kernel
theorem dX11_count_109 : decode cX11_count 109 = .ok (.invokevirtual 168, 3) := by decide +kernel
theorem dX11_count_113 : decode cX11_count 113 = .ok (.aload_n 0, 1) := by decide +kernel
theorem dX11_count_114 : decode cX11_count 114 = .ok (.getfield 10, 3) := by decide +kernel
theorem dX11_count_117 : decode cX11_count 117 = .ok (.getfield 132, 3) := by decide +kernel
theorem dX11_count_120 : decode cX11_count 120 = .ok (.invokevirtual 168, 3) := by decide +kernel
theorem dX11_count_124 : decode cX11_count 124 = .ok (.aload_n 0, 1) := by decide +kernel
theorem dX11_count_125 : decode cX11_count 125 = .ok (.getfield 10, 3) := by decide +kernel
theorem dX11_count_128 : decode cX11_count 128 = .ok (.getfield 138, 3) := by decide +kernel
theorem dX11_count_131 : decode cX11_count 131 = .ok (.invokevirtual 168, 3) := by decide +kernel
theorem dX11_count_135 : decode cX11_count 135 = .ok (.aload_n 0, 1) := by decide +kernel
theorem dX11_count_136 : decode cX11_count 136 = .ok (.getfield 10, 3) := by decide +kernel
theorem dX11_count_139 : decode cX11_count 139 = .ok (.getfield 229, 3) := by decide +kernel
theorem dX11_count_142 : decode cX11_count 142 = .ok (.invokevirtual 168, 3) := by decide +kernel
theorem dX11_count_146 : decode cX11_count 146 = .ok (.aload_n 0, 1) := by decide +kernel
theorem dX11_count_147 : decode cX11_count 147 = .ok (.getfield 10, 3) := by decide +kernel
theorem dX11_count_150 : decode cX11_count 150 = .ok (.getfield 24, 3) := by decide +kernel
theorem dX11_count_153 : decode cX11_count 153 = .ok (.getfield 250, 3) := by decide +kernel
theorem dX11_count_156 : decode cX11_count 156 = .ok (.invokevirtual 168, 3) := by decide +kernel
theorem dX11_count_160 : decode cX11_count 160 = .ok (.aload_n 0, 1) := by decide +kernel
theorem dX11_count_161 : decode cX11_count 161 = .ok (.getfield 10, 3) := by decide +kernel
theorem dX11_count_164 : decode cX11_count 164 = .ok (.getfield 280, 3) := by decide +kernel
theorem dX11_count_167 : decode cX11_count 167 = .ok (.ireturn, 1) := by decide +kernel
theorem dX11_count_168 : decode cX11_count 168 = .ok (.aload_n 0, 1) := by decide +kernel
theorem dX11_count_169 : decode cX11_count 169 = .ok (.getfield 10, 3) := by decide +kernel
theorem dX11_count_172 : decode cX11_count 172 = .ok (.getfield 24, 3) := by decide +kernel
theorem dX11_count_175 : decode cX11_count 175 = .ok (.getfield 28, 3) := by decide +kernel
theorem dX11_count_178 : decode cX11_count 178 = .ok (.invokevirtual 168, 3) := by decide +kernel
theorem dX11_count_182 : decode cX11_count 182 = .ok (.aload_n 0, 1) := by decide +kernel
theorem dX11_count_183 : decode cX11_count 183 = .ok (.getfield 72, 3) := by decide +kernel
theorem dX11_count_186 : decode cX11_count 186 = .ok (.getfield 334, 3) := by decide +kernel
theorem dX11_count_189 : decode cX11_count 189 = .ok (.invokevirtual 168, 3) := by decide +kernel
theorem dX11_count_193 : decode cX11_count 193 = .ok (.aload_n 0, 1) := by decide +kernel
theorem dX11_count_194 : decode cX11_count 194 = .ok (.getfield 10, 3) := by decide +kernel
theorem dX11_count_197 : decode cX11_count 197 = .ok (.getfield 347, 3) := by decide +kernel
theorem dX11_count_200 : decode cX11_count 200 = .ok (.invokevirtual 168, 3) := by decide +kernel
theorem dX11_count_204 : decode cX11_count 204 = .ok (.aload_n 0, 1) := by decide +kernel
theorem dX11_count_205 : decode cX11_count 205 = .ok (.getfield 10, 3) := by decide +kernel
theorem dX11_count_209 : decode cX11_count 209 = .ok (.iconst 0, 1) := by decide +kernel
theorem dX11_count_208 : decode cX11_count 208 = .ok (.iconst 1, 1) := by decide +kernel
theorem dX11_count_210 : decode cX11_count 210 = .ok (.invokevirtual 290, 3) := by decide +kernel
theorem dX11_count_214 : decode cX11_count 214 = .ok (.aload_n 0, 1) := by decide +kernel
theorem dX11_count_215 : decode cX11_count 215 = .ok (.getfield 10, 3) := by decide +kernel
theorem dX11_count_219 : decode cX11_count 219 = .ok (.iconst 1, 1) := by decide +kernel
theorem dX11_count_218 : decode cX11_count 218 = .ok (.iconst 4, 1) := by decide +kernel
theorem dX11_count_220 : decode cX11_count 220 = .ok (.invokevirtual 290, 3) := by decide +kernel
theorem dX11_count_224 : decode cX11_count 224 = .ok (.aload_n 0, 1) := by decide +kernel
theorem dX11_count_225 : decode cX11_count 225 = .ok (.getfield 10, 3) := by decide +kernel
theorem dX11_count_228 : decode cX11_count 228 = .ok (.getfield 138, 3) := by decide +kernel
theorem dX11_count_231 : decode cX11_count 231 = .ok (.iconst 2, 1) := by decide +kernel
theorem dX11_count_232 : decode cX11_count 232 = .ok (.invokevirtual 353, 3) := by decide +kernel
theorem dX11_count_236 : decode cX11_count 236 = .ok (.aload_n 0, 1) := by decide +kernel
theorem dX11_count_237 : decode cX11_count 237 = .ok (.getfield 10, 3) := by decide +kernel
theorem dX11_count_240 : decode cX11_count 240 = .ok (.getfield 138, 3) := by decide +kernel
theorem dX11_count_243 : decode cX11_count 243 = .ok (.iconst 3, 1) := by decide +kernel
theorem dX11_count_244 : decode cX11_count 244 = .ok (.invokevirtual 353, 3) := by decide +kernel
theorem dX11_count_248 : decode cX11_count 248 = .ok (.aload_n 0, 1) := by decide +kernel
theorem dX11_count_249 : decode cX11_count 249 = .ok (.getfield 10, 3) := by decide +kernel
theorem dX11_count_252 : decode cX11_count 252 = .ok (.invokevirtual 356, 3) := by decide +kernel
theorem dX11_count_257 : decode cX11_count 257 = .ok (.iconst 1, 1) := by decide +kernel
theorem dX11_count_256 : decode cX11_count 256 = .ok (.aload_n 0, 1) := by decide +kernel
theorem dX11_count_258 : decode cX11_count 258 = .ok (.invokevirtual 94, 3) := by decide +kernel
theorem dX11_count_90 : decode cX11_count 90 = .ok (.ireturn, 1) := by decide +kernel
theorem dX11_count_101 : decode cX11_count 101 = .ok (.ireturn, 1) := by decide +kernel
theorem dX11_count_112 : decode cX11_count 112 = .ok (.ireturn, 1) := by decide +kernel
theorem dX11_count_123 : decode cX11_count 123 = .ok (.ireturn, 1) := by decide +kernel
theorem dX11_count_134 : decode cX11_count 134 = .ok (.ireturn, 1) := by decide +kernel
theorem dX11_count_145 : decode cX11_count 145 = .ok (.ireturn, 1) := by decide +kernel
theorem dX11_count_159 : decode cX11_count 159 = .ok (.ireturn, 1) := by decide +kernel
theorem dX11_count_181 : decode cX11_count 181 = .ok (.ireturn, 1) := by decide +kernel
theorem dX11_count_192 : decode cX11_count 192 = .ok (.ireturn, 1) := by decide +kernel
theorem dX11_count_203 : decode cX11_count 203 = .ok (.ireturn, 1) := by decide +kernel
theorem dX11_count_213 : decode cX11_count 213 = .ok (.ireturn, 1) := by decide +kernel
theorem dX11_count_223 : decode cX11_count 223 = .ok (.ireturn, 1) := by decide +kernel
theorem dX11_count_235 : decode cX11_count 235 = .ok (.ireturn, 1) := by decide +kernel
theorem dX11_count_247 : decode cX11_count 247 = .ok (.ireturn, 1) := by decide +kernel
theorem dX11_count_255 : decode cX11_count 255 = .ok (.ireturn, 1) := by decide +kernel
theorem dX11_count_261 : decode cX11_count 261 = .ok (.ireturn, 1) := by decide +kernel
theorem dX11_found_2 : decode cX11_found 2 = .ok (.iconst 5, 1) := by decide +kernel
theorem dX11_found_1 : decode cX11_found 1 = .ok (.iconst 1, 1) := by decide +kernel
theorem dX11_found_0 : decode cX11_found 0 = .ok (.iload_n 1, 1) := by decide +kernel
theorem dX11_found_3 : decode cX11_found 3 = .ok (.invokestatic 90, 3) := by decide +kernel
theorem dX11_found_6 : decode cX11_found 6 = .ok (.ifCond .eq 12, 3) := by decide +kernel
theorem dX11_found_19 : decode cX11_found 19 = .ok (.iconst 1, 1) := by decide +kernel
theorem dX11_found_18 : decode cX11_found 18 = .ok (.aload_n 0, 1) := by decide +kernel
theorem dX11_found_20 : decode cX11_found 20 = .ok (.invokevirtual 94, 3) := by decide +kernel
theorem dX11_found_9 : decode cX11_found 9 = .ok (.aload_n 0, 1) := by decide +kernel
theorem dX11_found_10 : decode cX11_found 10 = .ok (.getfield 76, 3) := by decide +kernel
theorem dX11_found_13 : decode cX11_found 13 = .ok (.iload_n 1, 1) := by decide +kernel
theorem dX11_found_14 : decode cX11_found 14 = .ok (.iaload, 1) := by decide +kernel
theorem dX11_found_15 : decode cX11_found 15 = .ok (.goto 8, 3) := by decide +kernel
theorem dX11_found_23 : decode cX11_found 23 = .ok (.ireturn, 1) := by decide +kernel
theorem dX11_numberOrFull_1 : decode cX11_numberOrFull 1 = .ok (.ifCond .ge 11, 3) := by decide +kernel
theorem dX11_numberOrFull_0 : decode cX11_numberOrFull 0 = .ok (.iload_n 1, 1) := by decide +kernel
theorem dX11_numberOrFull_12 : decode cX11_numberOrFull 12 = .ok (.iload_n 1, 1) := by decide +kernel
theorem dX11_numberOrFull_13 : decode cX11_numberOrFull 13 = .ok (.ireturn, 1) := by decide +kernel
theorem dX11_numberOrFull_5 : decode cX11_numberOrFull 5 = .ok (.iconst 4, 1) := by decide +kernel
theorem dX11_numberOrFull_4 : decode cX11_numberOrFull 4 = .ok (.aload_n 0, 1) := by decide +kernel
theorem dX11_numberOrFull_6 : decode cX11_numberOrFull 6 = .ok (.invokevirtual 94, 3) := by decide +kernel
theorem dX11_numberOrFull_9 : decode cX11_numberOrFull 9 = .ok (.goto 4, 3) := by decide +kernel
theorem dX11_changed_1 : decode cX11_changed 1 = .ok (.ifCond .eq 7, 3) := by decide +kernel
theorem dX11_changed_0 : decode cX11_changed 0 = .ok (.iload_n 3, 1) := by decide +kernel
theorem dX11_changed_13 : decode cX11_changed 13 = .ok (.iload_n 2, 1) := by decide +kernel
theorem dX11_changed_12 : decode cX11_changed 12 = .ok (.iload_n 1, 1) := by decide +kernel
theorem dX11_changed_11 : decode cX11_changed 11 = .ok (.aload_n 0, 1) := by decide +kernel
theorem dX11_changed_9 : decode cX11_changed 9 = .ok (.istore 4, 2) := by decide +kernel
theorem dX11_changed_8 : decode cX11_changed 8 = .ok (.iconst 0, 1) := by decide +kernel
theorem dX11_changed_14 : decode cX11_changed 14 = .ok (.invokevirtual 141, 3) := by decide +kernel
theorem dX11_changed_5 : decode cX11_changed 5 = .ok (.goto 4, 3) := by decide +kernel
theorem dX11_changed_4 : decode cX11_changed 4 = .ok (.iconst 1, 1) := by decide +kernel
theorem dX11_changed_22 : decode cX11_changed 22 = .ok (.iload 4, 2) := by decide +kernel
theorem dX11_changed_21 : decode cX11_changed 21 = .ok (.iload_n 2, 1) := by decide +kernel
theorem dX11_changed_20 : decode cX11_changed 20 = .ok (.iload_n 1, 1) := by decide +kernel
theorem dX11_changed_19 : decode cX11_changed 19 = .ok (.aload_n 0, 1) := by decide +kernel
theorem dX11_changed_17 : decode cX11_changed 17 = .ok (.istore 5, 2) := by decide +kernel
theorem dX11_changed_24 : decode cX11_changed 24 = .ok (.invokevirtual 106, 3) := by decide +kernel
theorem dX11_changed_31 : decode cX11_changed 31 = .ok (.if_icmp .ne 7, 3) := by decide +kernel
theorem dX11_changed_29 : decode cX11_changed 29 = .ok (.iload 4, 2) := by decide +kernel
theorem dX11_changed_27 : decode cX11_changed 27 = .ok (.iload 5, 2) := by decide +kernel
theorem dX11_changed_35 : decode cX11_changed 35 = .ok (.goto 4, 3) := by decide +kernel
theorem dX11_changed_34 : decode cX11_changed 34 = .ok (.iconst 0, 1) := by decide +kernel
theorem dX11_changed_39 : decode cX11_changed 39 = .ok (.ireturn, 1) := by decide +kernel
theorem dX11_changed_38 : decode cX11_changed 38 = .ok (.iconst 1, 1) := by decide +kernel
theorem B_X11_mast_0 {o : q_H} (d : Nat) (x1 x2 : Int32) (g : Nat → Nat → Int32) : q_sem (d + 1) mX11_mast 0 [.ref 0, .int x1, .int x2, .retAddr 0] [] (q_K o g) = (q_sem d mX3_isCell 0 [.int x1] [] (q_K o g)).bind (fun r => q_sem (d + 1) mX11_mast 4 [.ref 0, .int x1, .int x2, .retAddr 0] (r.1.toList ++ []) r.2) := by
  refine (q_blk (Y := mX11_mast) (q_dcC dX11_mast_0 q_dcN) (show _ = some (1, [.ref 0, .int x1, .int x2, .retAddr 0], [.int x1]) from rfl)).trans ?_
  exact K_calS (d := d) (Y := mX11_mast) (Z := mX3_isCell) (vs := [.int x1]) (rest := []) (la := [.int x1]) dX11_mast_1 rfl rfl rfl rfl (Nat.le_of_ble_eq_true rfl) rfl (Nat.le_of_ble_eq_true rfl)
theorem B_X11_mast_4 {o : q_H} (d : Nat) (x1 x2 y0 : Int32) (g : Nat → Nat → Int32) : q_sem (d + 1) mX11_mast 4 [.ref 0, .int x1, .int x2, .retAddr 0] [.int y0] (q_K o g) = (if y0 = 0 then (q_sem d mX11_finding 0 [.ref 0, .int 1] [] (q_K o g)).bind (fun r => q_sem (d + 1) mX11_mast 22 [.ref 0, .int x1, .int x2, .retAddr 0] (r.1.toList ++ []) r.2) else (q_sem d mX11_within 0 [.int x2, .int 1, .int 15] [] (q_K o g)).bind (fun r => q_sem (d + 1) mX11_mast 14 [.ref 0, .int x1, .int x2, .retAddr 0] (r.1.toList ++ []) r.2)) := by
  refine (q_blk (Y := mX11_mast) (q_dcC dX11_mast_4 q_dcN) (show _ = some ((if q_cc .eq y0 0 = true then 17 else 7), [.ref 0, .int x1, .int x2, .retAddr 0], []) from rfl)).trans ?_
  by_cases c1 : y0 = 0
  · rw [if_pos (show q_cc .eq y0 0 = true from decide_eq_true c1)]
    refine Eq.trans ?_ (if_pos c1).symm
    refine (q_blk (Y := mX11_mast) (q_dcC dX11_mast_17 (q_dcC dX11_mast_18 q_dcN)) (show _ = some (19, [.ref 0, .int x1, .int x2, .retAddr 0], [.int 1, .ref 0]) from rfl)).trans ?_
    exact K_calV (d := d) (Y := mX11_mast) (Z := mX11_finding) (vs := [.int 1]) (rest := []) (la := [.ref 0, .int 1]) dX11_mast_19 rfl rfl rfl rfl ⟨by decide, rfl⟩ (Nat.le_of_ble_eq_true rfl) rfl (Nat.le_of_ble_eq_true rfl)
  · rw [if_neg (show ¬ q_cc .eq y0 0 = true from fun z => c1 (of_decide_eq_true z))]
    refine Eq.trans ?_ (if_neg c1).symm
    refine (q_blk (Y := mX11_mast) (q_dcC dX11_mast_7 (q_dcC dX11_mast_8 (q_dcC dX11_mast_9 q_dcN))) (show _ = some (11, [.ref 0, .int x1, .int x2, .retAddr 0], [.int 15, .int 1, .int x2]) from rfl)).trans ?_
    exact K_calS (d := d) (Y := mX11_mast) (Z := mX11_within) (vs := [.int x2, .int 1, .int 15]) (rest := []) (la := [.int x2, .int 1, .int 15]) dX11_mast_11 rfl rfl rfl rfl (Nat.le_of_ble_eq_true rfl) rfl (Nat.le_of_ble_eq_true rfl)
theorem B_X11_mast_22 {o : q_H} (d : Nat) (x1 x2 y0 : Int32) (g : Nat → Nat → Int32) : q_sem (d) mX11_mast 22 [.ref 0, .int x1, .int x2, .retAddr 0] [.int y0] (q_K o g) = some (some (.int y0), q_K o g) := by
  exact k_iret (Y := mX11_mast) dX11_mast_22 rfl
theorem B_X11_mast_14 {o : q_H} (d : Nat) (x1 x2 y0 : Int32) (g : Nat → Nat → Int32) : q_sem (d + 1) mX11_mast 14 [.ref 0, .int x1, .int x2, .retAddr 0] [.int y0] (q_K o g) = (if y0 = 0 then (q_sem d mX11_finding 0 [.ref 0, .int 1] [] (q_K o g)).bind (fun r => q_sem (d + 1) mX11_mast 22 [.ref 0, .int x1, .int x2, .retAddr 0] (r.1.toList ++ []) r.2) else (q_sem d mX7_add 0 [.ref 2, .int x1, .retAddr 0] [] (q_K o g)).bind (fun r => q_sem (d + 1) mX11_mast 34 [.ref 0, .int x1, .int x2, .retAddr 0] (r.1.toList ++ []) r.2)) := by
  refine (q_blk (Y := mX11_mast) (q_dcC dX11_mast_14 q_dcN) (show _ = some ((if q_cc .ne y0 0 = true then 23 else 17), [.ref 0, .int x1, .int x2, .retAddr 0], []) from rfl)).trans ?_
  by_cases c1 : y0 = 0
  · rw [if_neg (show ¬ q_cc .ne y0 0 = true from fun z => (of_decide_eq_true z : ¬ y0 = 0) c1)]
    refine Eq.trans ?_ (if_pos c1).symm
    refine (q_blk (Y := mX11_mast) (q_dcC dX11_mast_17 (q_dcC dX11_mast_18 q_dcN)) (show _ = some (19, [.ref 0, .int x1, .int x2, .retAddr 0], [.int 1, .ref 0]) from rfl)).trans ?_
    exact K_calV (d := d) (Y := mX11_mast) (Z := mX11_finding) (vs := [.int 1]) (rest := []) (la := [.ref 0, .int 1]) dX11_mast_19 rfl rfl rfl rfl ⟨by decide, rfl⟩ (Nat.le_of_ble_eq_true rfl) rfl (Nat.le_of_ble_eq_true rfl)
  · rw [if_pos (show q_cc .ne y0 0 = true from decide_eq_true c1)]
    refine Eq.trans ?_ (if_neg c1).symm
    refine (q_blk (Y := mX11_mast) (q_dcC dX11_mast_23 q_dcN) (show _ = some (24, [.ref 0, .int x1, .int x2, .retAddr 0], [.ref 0]) from rfl)).trans ?_
    refine (k_getr (Y := mX11_mast) dX11_mast_24 rfl rfl ⟨by decide, rfl⟩ (by decide) rfl).trans ?_
    refine (k_getr (Y := mX11_mast) dX11_mast_27 rfl rfl ⟨by decide, rfl⟩ (by decide) rfl).trans ?_
    refine (q_blk (Y := mX11_mast) (q_dcC dX11_mast_30 q_dcN) (show _ = some (31, [.ref 0, .int x1, .int x2, .retAddr 0], [.int x1, .ref 2]) from rfl)).trans ?_
    exact K_calV (d := d) (Y := mX11_mast) (Z := mX7_add) (vs := [.int x1]) (rest := []) (la := [.ref 2, .int x1, .retAddr 0]) dX11_mast_31 rfl rfl rfl rfl ⟨by decide, rfl⟩ (Nat.le_of_ble_eq_true rfl) rfl (Nat.le_of_ble_eq_true rfl)
theorem B_X11_mast_34 {o : q_H} (d : Nat) (x1 x2 y0 : Int32) (g : Nat → Nat → Int32) : q_sem (d + 1) mX11_mast 34 [.ref 0, .int x1, .int x2, .retAddr 0] [.int y0] (q_K o g) = (if 0 ≤ y0 then (q_sem d mX7_write 0 [.ref 2, .int y0, .int 1, .int x2] [] (q_K o g)).bind (fun r => q_sem (d + 1) mX11_mast 58 [.ref 0, .int x1, .int x2, .int y0] (r.1.toList ++ []) r.2) else (q_sem d mX11_finding 0 [.ref 0, .int 4] [] (q_K o g)).bind (fun r => q_sem (d + 1) mX11_mast 44 [.ref 0, .int x1, .int x2, .int y0] (r.1.toList ++ []) r.2)) := by
  refine (q_blk (Y := mX11_mast) (q_dcC dX11_mast_34 (q_dcC dX11_mast_35 (q_dcC dX11_mast_36 q_dcN))) (show _ = some ((if q_cc .ge y0 0 = true then 45 else 39), [.ref 0, .int x1, .int x2, .int y0], []) from rfl)).trans ?_
  by_cases c1 : 0 ≤ y0
  · rw [if_pos (show q_cc .ge y0 0 = true from decide_eq_true c1)]
    refine Eq.trans ?_ (if_pos c1).symm
    refine (q_blk (Y := mX11_mast) (q_dcC dX11_mast_45 q_dcN) (show _ = some (46, [.ref 0, .int x1, .int x2, .int y0], [.ref 0]) from rfl)).trans ?_
    refine (k_getr (Y := mX11_mast) dX11_mast_46 rfl rfl ⟨by decide, rfl⟩ (by decide) rfl).trans ?_
    refine (k_getr (Y := mX11_mast) dX11_mast_49 rfl rfl ⟨by decide, rfl⟩ (by decide) rfl).trans ?_
    refine (q_blk (Y := mX11_mast) (q_dcC dX11_mast_52 (q_dcC dX11_mast_53 (q_dcC dX11_mast_54 q_dcN))) (show _ = some (55, [.ref 0, .int x1, .int x2, .int y0], [.int x2, .int 1, .int y0, .ref 2]) from rfl)).trans ?_
    exact K_calV (d := d) (Y := mX11_mast) (Z := mX7_write) (vs := [.int y0, .int 1, .int x2]) (rest := []) (la := [.ref 2, .int y0, .int 1, .int x2]) dX11_mast_55 rfl rfl rfl rfl ⟨by decide, rfl⟩ (Nat.le_of_ble_eq_true rfl) rfl (Nat.le_of_ble_eq_true rfl)
  · rw [if_neg (show ¬ q_cc .ge y0 0 = true from fun z => c1 (of_decide_eq_true z))]
    refine Eq.trans ?_ (if_neg c1).symm
    refine (q_blk (Y := mX11_mast) (q_dcC dX11_mast_39 (q_dcC dX11_mast_40 q_dcN)) (show _ = some (41, [.ref 0, .int x1, .int x2, .int y0], [.int 4, .ref 0]) from rfl)).trans ?_
    exact K_calV (d := d) (Y := mX11_mast) (Z := mX11_finding) (vs := [.int 4]) (rest := []) (la := [.ref 0, .int 4]) dX11_mast_41 rfl rfl rfl rfl ⟨by decide, rfl⟩ (Nat.le_of_ble_eq_true rfl) rfl (Nat.le_of_ble_eq_true rfl)
theorem B_X11_mast_58 {o : q_H} (d : Nat) (x1 x2 x3 : Int32) (g : Nat → Nat → Int32) : q_sem (d) mX11_mast 58 [.ref 0, .int x1, .int x2, .int x3] [] (q_K o g) = some (some (.int x3), q_K o g) := by
  refine (q_blk (Y := mX11_mast) (q_dcC dX11_mast_58 q_dcN) (show _ = some (59, [.ref 0, .int x1, .int x2, .int x3], [.int x3]) from rfl)).trans ?_
  exact k_iret (Y := mX11_mast) dX11_mast_59 rfl
theorem B_X11_mast_44 {o : q_H} (d : Nat) (x1 x2 x3 y0 : Int32) (g : Nat → Nat → Int32) : q_sem (d) mX11_mast 44 [.ref 0, .int x1, .int x2, .int x3] [.int y0] (q_K o g) = some (some (.int y0), q_K o g) := by
  exact k_iret (Y := mX11_mast) dX11_mast_44 rfl
theorem B_X11_jam_0 {o : q_H} (d : Nat) (x1 x2 : Int32) (g : Nat → Nat → Int32) : q_sem (d + 1) mX11_jam 0 [.ref 0, .int x1, .int x2] [] (q_K o g) = (q_sem d mX7_has 0 [.ref 2, .int x1] [] (q_K o g)).bind (fun r => q_sem (d + 1) mX11_jam 11 [.ref 0, .int x1, .int x2] (r.1.toList ++ []) r.2) := by
  refine (q_blk (Y := mX11_jam) (q_dcC dX11_jam_0 q_dcN) (show _ = some (1, [.ref 0, .int x1, .int x2], [.ref 0]) from rfl)).trans ?_
  refine (k_getr (Y := mX11_jam) dX11_jam_1 rfl rfl ⟨by decide, rfl⟩ (by decide) rfl).trans ?_
  refine (k_getr (Y := mX11_jam) dX11_jam_4 rfl rfl ⟨by decide, rfl⟩ (by decide) rfl).trans ?_
  refine (q_blk (Y := mX11_jam) (q_dcC dX11_jam_7 q_dcN) (show _ = some (8, [.ref 0, .int x1, .int x2], [.int x1, .ref 2]) from rfl)).trans ?_
  exact K_calV (d := d) (Y := mX11_jam) (Z := mX7_has) (vs := [.int x1]) (rest := []) (la := [.ref 2, .int x1]) dX11_jam_8 rfl rfl rfl rfl ⟨by decide, rfl⟩ (Nat.le_of_ble_eq_true rfl) rfl (Nat.le_of_ble_eq_true rfl)
theorem B_X11_jam_11 {o : q_H} (d : Nat) (x1 x2 y0 : Int32) (g : Nat → Nat → Int32) : q_sem (d + 1) mX11_jam 11 [.ref 0, .int x1, .int x2] [.int y0] (q_K o g) = (if y0 = 0 then (q_sem d mX11_finding 0 [.ref 0, .int 1] [] (q_K o g)).bind (fun r => q_sem (d + 1) mX11_jam 35 [.ref 0, .int x1, .int x2] (r.1.toList ++ []) r.2) else (q_sem d mX11_changed 0 [.ref 2, .int x1, .int 2, .int x2, .retAddr 0, .retAddr 0] [] (q_K o g)).bind (fun r => q_sem (d + 1) mX11_jam 27 [.ref 0, .int x1, .int x2] (r.1.toList ++ []) r.2)) := by
  refine (q_blk (Y := mX11_jam) (q_dcC dX11_jam_11 q_dcN) (show _ = some ((if q_cc .eq y0 0 = true then 30 else 14), [.ref 0, .int x1, .int x2], []) from rfl)).trans ?_
  by_cases c1 : y0 = 0
  · rw [if_pos (show q_cc .eq y0 0 = true from decide_eq_true c1)]
    refine Eq.trans ?_ (if_pos c1).symm
    refine (q_blk (Y := mX11_jam) (q_dcC dX11_jam_30 (q_dcC dX11_jam_31 q_dcN)) (show _ = some (32, [.ref 0, .int x1, .int x2], [.int 1, .ref 0]) from rfl)).trans ?_
    exact K_calV (d := d) (Y := mX11_jam) (Z := mX11_finding) (vs := [.int 1]) (rest := []) (la := [.ref 0, .int 1]) dX11_jam_32 rfl rfl rfl rfl ⟨by decide, rfl⟩ (Nat.le_of_ble_eq_true rfl) rfl (Nat.le_of_ble_eq_true rfl)
  · rw [if_neg (show ¬ q_cc .eq y0 0 = true from fun z => c1 (of_decide_eq_true z))]
    refine Eq.trans ?_ (if_neg c1).symm
    refine (q_blk (Y := mX11_jam) (q_dcC dX11_jam_14 q_dcN) (show _ = some (15, [.ref 0, .int x1, .int x2], [.ref 0]) from rfl)).trans ?_
    refine (k_getr (Y := mX11_jam) dX11_jam_15 rfl rfl ⟨by decide, rfl⟩ (by decide) rfl).trans ?_
    refine (k_getr (Y := mX11_jam) dX11_jam_18 rfl rfl ⟨by decide, rfl⟩ (by decide) rfl).trans ?_
    refine (q_blk (Y := mX11_jam) (q_dcC dX11_jam_21 (q_dcC dX11_jam_22 (q_dcC dX11_jam_23 q_dcN))) (show _ = some (24, [.ref 0, .int x1, .int x2], [.int x2, .int 2, .int x1, .ref 2]) from rfl)).trans ?_
    exact K_calS (d := d) (Y := mX11_jam) (Z := mX11_changed) (vs := [.ref 2, .int x1, .int 2, .int x2]) (rest := []) (la := [.ref 2, .int x1, .int 2, .int x2, .retAddr 0, .retAddr 0]) dX11_jam_24 rfl rfl rfl rfl (Nat.le_of_ble_eq_true rfl) rfl (Nat.le_of_ble_eq_true rfl)
theorem B_X11_jam_35 {o : q_H} (d : Nat) (x1 x2 y0 : Int32) (g : Nat → Nat → Int32) : q_sem (d) mX11_jam 35 [.ref 0, .int x1, .int x2] [.int y0] (q_K o g) = some (some (.int y0), q_K o g) := by
  exact k_iret (Y := mX11_jam) dX11_jam_35 rfl
theorem B_X11_jam_27 {o : q_H} (d : Nat) (x1 x2 y0 : Int32) (g : Nat → Nat → Int32) : q_sem (d) mX11_jam 27 [.ref 0, .int x1, .int x2] [.int y0] (q_K o g) = some (some (.int y0), q_K o g) := by
  refine (q_blk (Y := mX11_jam) (q_dcC dX11_jam_27 q_dcN) (show _ = some (35, [.ref 0, .int x1, .int x2], [.int y0]) from rfl)).trans ?_
  exact k_iret (Y := mX11_jam) dX11_jam_35 rfl
theorem B_X11_post_0 {o : q_H} (d : Nat) (x1 x2 : Int32) (g : Nat → Nat → Int32) : q_sem (d + 1) mX11_post 0 [.ref 0, .int x1, .int x2, .retAddr 0] [] (q_K o g) = (q_sem d mX3_isCell 0 [.int x1] [] (q_K o g)).bind (fun r => q_sem (d + 1) mX11_post 4 [.ref 0, .int x1, .int x2, .retAddr 0] (r.1.toList ++ []) r.2) := by
  refine (q_blk (Y := mX11_post) (q_dcC dX11_post_0 q_dcN) (show _ = some (1, [.ref 0, .int x1, .int x2, .retAddr 0], [.int x1]) from rfl)).trans ?_
  exact K_calS (d := d) (Y := mX11_post) (Z := mX3_isCell) (vs := [.int x1]) (rest := []) (la := [.int x1]) dX11_post_1 rfl rfl rfl rfl (Nat.le_of_ble_eq_true rfl) rfl (Nat.le_of_ble_eq_true rfl)
theorem B_X11_post_4 {o : q_H} (d : Nat) (x1 x2 y0 : Int32) (g : Nat → Nat → Int32) : q_sem (d + 1) mX11_post 4 [.ref 0, .int x1, .int x2, .retAddr 0] [.int y0] (q_K o g) = (if y0 = 0 then (q_sem d mX11_finding 0 [.ref 0, .int 1] [] (q_K o g)).bind (fun r => q_sem (d + 1) mX11_post 22 [.ref 0, .int x1, .int x2, .retAddr 0] (r.1.toList ++ []) r.2) else (q_sem d mX11_within 0 [.int x2, .int 0, .int 15] [] (q_K o g)).bind (fun r => q_sem (d + 1) mX11_post 14 [.ref 0, .int x1, .int x2, .retAddr 0] (r.1.toList ++ []) r.2)) := by
  refine (q_blk (Y := mX11_post) (q_dcC dX11_post_4 q_dcN) (show _ = some ((if q_cc .eq y0 0 = true then 17 else 7), [.ref 0, .int x1, .int x2, .retAddr 0], []) from rfl)).trans ?_
  by_cases c1 : y0 = 0
  · rw [if_pos (show q_cc .eq y0 0 = true from decide_eq_true c1)]
    refine Eq.trans ?_ (if_pos c1).symm
    refine (q_blk (Y := mX11_post) (q_dcC dX11_post_17 (q_dcC dX11_post_18 q_dcN)) (show _ = some (19, [.ref 0, .int x1, .int x2, .retAddr 0], [.int 1, .ref 0]) from rfl)).trans ?_
    exact K_calV (d := d) (Y := mX11_post) (Z := mX11_finding) (vs := [.int 1]) (rest := []) (la := [.ref 0, .int 1]) dX11_post_19 rfl rfl rfl rfl ⟨by decide, rfl⟩ (Nat.le_of_ble_eq_true rfl) rfl (Nat.le_of_ble_eq_true rfl)
  · rw [if_neg (show ¬ q_cc .eq y0 0 = true from fun z => c1 (of_decide_eq_true z))]
    refine Eq.trans ?_ (if_neg c1).symm
    refine (q_blk (Y := mX11_post) (q_dcC dX11_post_7 (q_dcC dX11_post_8 (q_dcC dX11_post_9 q_dcN))) (show _ = some (11, [.ref 0, .int x1, .int x2, .retAddr 0], [.int 15, .int 0, .int x2]) from rfl)).trans ?_
    exact K_calS (d := d) (Y := mX11_post) (Z := mX11_within) (vs := [.int x2, .int 0, .int 15]) (rest := []) (la := [.int x2, .int 0, .int 15]) dX11_post_11 rfl rfl rfl rfl (Nat.le_of_ble_eq_true rfl) rfl (Nat.le_of_ble_eq_true rfl)
theorem B_X11_post_22 {o : q_H} (d : Nat) (x1 x2 y0 : Int32) (g : Nat → Nat → Int32) : q_sem (d) mX11_post 22 [.ref 0, .int x1, .int x2, .retAddr 0] [.int y0] (q_K o g) = some (some (.int y0), q_K o g) := by
  exact k_iret (Y := mX11_post) dX11_post_22 rfl
theorem B_X11_post_14 {o : q_H} (d : Nat) (x1 x2 y0 : Int32) (g : Nat → Nat → Int32) : q_sem (d + 1) mX11_post 14 [.ref 0, .int x1, .int x2, .retAddr 0] [.int y0] (q_K o g) = (if y0 = 0 then (q_sem d mX11_finding 0 [.ref 0, .int 1] [] (q_K o g)).bind (fun r => q_sem (d + 1) mX11_post 22 [.ref 0, .int x1, .int x2, .retAddr 0] (r.1.toList ++ []) r.2) else (q_sem d mX7_add 0 [.ref 4, .int x1, .retAddr 0] [] (q_K o g)).bind (fun r => q_sem (d + 1) mX11_post 34 [.ref 0, .int x1, .int x2, .retAddr 0] (r.1.toList ++ []) r.2)) := by
  refine (q_blk (Y := mX11_post) (q_dcC dX11_post_14 q_dcN) (show _ = some ((if q_cc .ne y0 0 = true then 23 else 17), [.ref 0, .int x1, .int x2, .retAddr 0], []) from rfl)).trans ?_
  by_cases c1 : y0 = 0
  · rw [if_neg (show ¬ q_cc .ne y0 0 = true from fun z => (of_decide_eq_true z : ¬ y0 = 0) c1)]
    refine Eq.trans ?_ (if_pos c1).symm
    refine (q_blk (Y := mX11_post) (q_dcC dX11_post_17 (q_dcC dX11_post_18 q_dcN)) (show _ = some (19, [.ref 0, .int x1, .int x2, .retAddr 0], [.int 1, .ref 0]) from rfl)).trans ?_
    exact K_calV (d := d) (Y := mX11_post) (Z := mX11_finding) (vs := [.int 1]) (rest := []) (la := [.ref 0, .int 1]) dX11_post_19 rfl rfl rfl rfl ⟨by decide, rfl⟩ (Nat.le_of_ble_eq_true rfl) rfl (Nat.le_of_ble_eq_true rfl)
  · rw [if_pos (show q_cc .ne y0 0 = true from decide_eq_true c1)]
    refine Eq.trans ?_ (if_neg c1).symm
    refine (q_blk (Y := mX11_post) (q_dcC dX11_post_23 q_dcN) (show _ = some (24, [.ref 0, .int x1, .int x2, .retAddr 0], [.ref 0]) from rfl)).trans ?_
    refine (k_getr (Y := mX11_post) dX11_post_24 rfl rfl ⟨by decide, rfl⟩ (by decide) rfl).trans ?_
    refine (k_getr (Y := mX11_post) dX11_post_27 rfl rfl ⟨by decide, rfl⟩ (by decide) rfl).trans ?_
    refine (q_blk (Y := mX11_post) (q_dcC dX11_post_30 q_dcN) (show _ = some (31, [.ref 0, .int x1, .int x2, .retAddr 0], [.int x1, .ref 4]) from rfl)).trans ?_
    exact K_calV (d := d) (Y := mX11_post) (Z := mX7_add) (vs := [.int x1]) (rest := []) (la := [.ref 4, .int x1, .retAddr 0]) dX11_post_31 rfl rfl rfl rfl ⟨by decide, rfl⟩ (Nat.le_of_ble_eq_true rfl) rfl (Nat.le_of_ble_eq_true rfl)
theorem B_X11_post_34 {o : q_H} (d : Nat) (x1 x2 y0 : Int32) (g : Nat → Nat → Int32) : q_sem (d + 1) mX11_post 34 [.ref 0, .int x1, .int x2, .retAddr 0] [.int y0] (q_K o g) = (if 0 ≤ y0 then (q_sem d mX7_write 0 [.ref 4, .int y0, .int 1, .int x2] [] (q_K o g)).bind (fun r => q_sem (d + 1) mX11_post 58 [.ref 0, .int x1, .int x2, .int y0] (r.1.toList ++ []) r.2) else (q_sem d mX11_finding 0 [.ref 0, .int 4] [] (q_K o g)).bind (fun r => q_sem (d + 1) mX11_post 44 [.ref 0, .int x1, .int x2, .int y0] (r.1.toList ++ []) r.2)) := by
  refine (q_blk (Y := mX11_post) (q_dcC dX11_post_34 (q_dcC dX11_post_35 (q_dcC dX11_post_36 q_dcN))) (show _ = some ((if q_cc .ge y0 0 = true then 45 else 39), [.ref 0, .int x1, .int x2, .int y0], []) from rfl)).trans ?_
  by_cases c1 : 0 ≤ y0
  · rw [if_pos (show q_cc .ge y0 0 = true from decide_eq_true c1)]
    refine Eq.trans ?_ (if_pos c1).symm
    refine (q_blk (Y := mX11_post) (q_dcC dX11_post_45 q_dcN) (show _ = some (46, [.ref 0, .int x1, .int x2, .int y0], [.ref 0]) from rfl)).trans ?_
    refine (k_getr (Y := mX11_post) dX11_post_46 rfl rfl ⟨by decide, rfl⟩ (by decide) rfl).trans ?_
    refine (k_getr (Y := mX11_post) dX11_post_49 rfl rfl ⟨by decide, rfl⟩ (by decide) rfl).trans ?_
    refine (q_blk (Y := mX11_post) (q_dcC dX11_post_52 (q_dcC dX11_post_53 (q_dcC dX11_post_54 q_dcN))) (show _ = some (55, [.ref 0, .int x1, .int x2, .int y0], [.int x2, .int 1, .int y0, .ref 4]) from rfl)).trans ?_
    exact K_calV (d := d) (Y := mX11_post) (Z := mX7_write) (vs := [.int y0, .int 1, .int x2]) (rest := []) (la := [.ref 4, .int y0, .int 1, .int x2]) dX11_post_55 rfl rfl rfl rfl ⟨by decide, rfl⟩ (Nat.le_of_ble_eq_true rfl) rfl (Nat.le_of_ble_eq_true rfl)
  · rw [if_neg (show ¬ q_cc .ge y0 0 = true from fun z => c1 (of_decide_eq_true z))]
    refine Eq.trans ?_ (if_neg c1).symm
    refine (q_blk (Y := mX11_post) (q_dcC dX11_post_39 (q_dcC dX11_post_40 q_dcN)) (show _ = some (41, [.ref 0, .int x1, .int x2, .int y0], [.int 4, .ref 0]) from rfl)).trans ?_
    exact K_calV (d := d) (Y := mX11_post) (Z := mX11_finding) (vs := [.int 4]) (rest := []) (la := [.ref 0, .int 4]) dX11_post_41 rfl rfl rfl rfl ⟨by decide, rfl⟩ (Nat.le_of_ble_eq_true rfl) rfl (Nat.le_of_ble_eq_true rfl)
theorem B_X11_post_58 {o : q_H} (d : Nat) (x1 x2 x3 : Int32) (g : Nat → Nat → Int32) : q_sem (d) mX11_post 58 [.ref 0, .int x1, .int x2, .int x3] [] (q_K o g) = some (some (.int x3), q_K o g) := by
  refine (q_blk (Y := mX11_post) (q_dcC dX11_post_58 q_dcN) (show _ = some (59, [.ref 0, .int x1, .int x2, .int x3], [.int x3]) from rfl)).trans ?_
  exact k_iret (Y := mX11_post) dX11_post_59 rfl
theorem B_X11_post_44 {o : q_H} (d : Nat) (x1 x2 x3 y0 : Int32) (g : Nat → Nat → Int32) : q_sem (d) mX11_post 44 [.ref 0, .int x1, .int x2, .int x3] [.int y0] (q_K o g) = some (some (.int y0), q_K o g) := by
  exact k_iret (Y := mX11_post) dX11_post_44 rfl
theorem B_X11_set_0 {o : q_H} (d : Nat) (x1 x2 : Int32) (g : Nat → Nat → Int32) : q_sem (d + 1) mX11_set 0 [.ref 0, .int x1, .int x2, .retAddr 0] [] (q_K o g) = (if x1 = 0 then (q_sem d mX11_within 0 [.int x2, .int 0, .int 9] [] (q_K o g)).bind (fun r => q_sem (d + 1) mX11_set 11 [.ref 0, .int x1, .int x2, .retAddr 0] (r.1.toList ++ []) r.2) else (if x1 = 1 then (q_sem d mX11_within 0 [.int x2, .int 1, .int 9] [] (q_K o g)).bind (fun r => q_sem (d + 1) mX11_set 44 [.ref 0, .int x1, .int x2, .retAddr 0] (r.1.toList ++ []) r.2) else (q_sem d mX11_finding 0 [.ref 0, .int 1] [] (q_K o g)).bind (fun r => q_sem (d + 1) mX11_set 70 [.ref 0, .int x1, .int x2, .retAddr 0] (r.1.toList ++ []) r.2))) := by
  refine (q_blk (Y := mX11_set) (q_dcC dX11_set_0 (q_dcC dX11_set_1 q_dcN)) (show _ = some ((if q_cc .ne x1 0 = true then 32 else 4), [.ref 0, .int x1, .int x2, .retAddr 0], []) from rfl)).trans ?_
  by_cases c1 : x1 = 0
  · rw [if_neg (show ¬ q_cc .ne x1 0 = true from fun z => (of_decide_eq_true z : ¬ x1 = 0) c1)]
    refine Eq.trans ?_ (if_pos c1).symm
    refine (q_blk (Y := mX11_set) (q_dcC dX11_set_4 (q_dcC dX11_set_5 (q_dcC dX11_set_6 q_dcN))) (show _ = some (8, [.ref 0, .int x1, .int x2, .retAddr 0], [.int 9, .int 0, .int x2]) from rfl)).trans ?_
    exact K_calS (d := d) (Y := mX11_set) (Z := mX11_within) (vs := [.int x2, .int 0, .int 9]) (rest := []) (la := [.int x2, .int 0, .int 9]) dX11_set_8 rfl rfl rfl rfl (Nat.le_of_ble_eq_true rfl) rfl (Nat.le_of_ble_eq_true rfl)
  · rw [if_pos (show q_cc .ne x1 0 = true from decide_eq_true c1)]
    refine Eq.trans ?_ (if_neg c1).symm
    refine (q_blk (Y := mX11_set) (q_dcC dX11_set_32 (q_dcC dX11_set_33 (q_dcC dX11_set_34 q_dcN))) (show _ = some ((if q_cc .ne x1 1 = true then 65 else 37), [.ref 0, .int x1, .int x2, .retAddr 0], []) from rfl)).trans ?_
    by_cases c2 : x1 = 1
    · rw [if_neg (show ¬ q_cc .ne x1 1 = true from fun z => (of_decide_eq_true z : ¬ x1 = 1) c2)]
      refine Eq.trans ?_ (if_pos c2).symm
      refine (q_blk (Y := mX11_set) (q_dcC dX11_set_37 (q_dcC dX11_set_38 (q_dcC dX11_set_39 q_dcN))) (show _ = some (41, [.ref 0, .int x1, .int x2, .retAddr 0], [.int 9, .int 1, .int x2]) from rfl)).trans ?_
      exact K_calS (d := d) (Y := mX11_set) (Z := mX11_within) (vs := [.int x2, .int 1, .int 9]) (rest := []) (la := [.int x2, .int 1, .int 9]) dX11_set_41 rfl rfl rfl rfl (Nat.le_of_ble_eq_true rfl) rfl (Nat.le_of_ble_eq_true rfl)
    · rw [if_pos (show q_cc .ne x1 1 = true from decide_eq_true c2)]
      refine Eq.trans ?_ (if_neg c2).symm
      refine (q_blk (Y := mX11_set) (q_dcC dX11_set_65 (q_dcC dX11_set_66 q_dcN)) (show _ = some (67, [.ref 0, .int x1, .int x2, .retAddr 0], [.int 1, .ref 0]) from rfl)).trans ?_
      exact K_calV (d := d) (Y := mX11_set) (Z := mX11_finding) (vs := [.int 1]) (rest := []) (la := [.ref 0, .int 1]) dX11_set_67 rfl rfl rfl rfl ⟨by decide, rfl⟩ (Nat.le_of_ble_eq_true rfl) rfl (Nat.le_of_ble_eq_true rfl)
theorem B_X11_set_11 {o : q_H} (d : Nat) (x1 x2 y0 : Int32) (g : Nat → Nat → Int32) : q_sem (d + 1) mX11_set 11 [.ref 0, .int x1, .int x2, .retAddr 0] [.int y0] (q_K o g) = (if y0 = 0 then (if x1 = 1 then (q_sem d mX11_within 0 [.int x2, .int 1, .int 9] [] (q_K o g)).bind (fun r => q_sem (d + 1) mX11_set 44 [.ref 0, .int x1, .int x2, .retAddr 0] (r.1.toList ++ []) r.2) else (q_sem d mX11_finding 0 [.ref 0, .int 1] [] (q_K o g)).bind (fun r => q_sem (d + 1) mX11_set 70 [.ref 0, .int x1, .int x2, .retAddr 0] (r.1.toList ++ []) r.2)) else some (some (.int (g 1 9)), q_K o (q_up g 1 9 x2))) := by
  refine (q_blk (Y := mX11_set) (q_dcC dX11_set_11 q_dcN) (show _ = some ((if q_cc .eq y0 0 = true then 32 else 14), [.ref 0, .int x1, .int x2, .retAddr 0], []) from rfl)).trans ?_
  by_cases c1 : y0 = 0
  · rw [if_pos (show q_cc .eq y0 0 = true from decide_eq_true c1)]
    refine Eq.trans ?_ (if_pos c1).symm
    refine (q_blk (Y := mX11_set) (q_dcC dX11_set_32 (q_dcC dX11_set_33 (q_dcC dX11_set_34 q_dcN))) (show _ = some ((if q_cc .ne x1 1 = true then 65 else 37), [.ref 0, .int x1, .int x2, .retAddr 0], []) from rfl)).trans ?_
    by_cases c2 : x1 = 1
    · rw [if_neg (show ¬ q_cc .ne x1 1 = true from fun z => (of_decide_eq_true z : ¬ x1 = 1) c2)]
      refine Eq.trans ?_ (if_pos c2).symm
      refine (q_blk (Y := mX11_set) (q_dcC dX11_set_37 (q_dcC dX11_set_38 (q_dcC dX11_set_39 q_dcN))) (show _ = some (41, [.ref 0, .int x1, .int x2, .retAddr 0], [.int 9, .int 1, .int x2]) from rfl)).trans ?_
      exact K_calS (d := d) (Y := mX11_set) (Z := mX11_within) (vs := [.int x2, .int 1, .int 9]) (rest := []) (la := [.int x2, .int 1, .int 9]) dX11_set_41 rfl rfl rfl rfl (Nat.le_of_ble_eq_true rfl) rfl (Nat.le_of_ble_eq_true rfl)
    · rw [if_pos (show q_cc .ne x1 1 = true from decide_eq_true c2)]
      refine Eq.trans ?_ (if_neg c2).symm
      refine (q_blk (Y := mX11_set) (q_dcC dX11_set_65 (q_dcC dX11_set_66 q_dcN)) (show _ = some (67, [.ref 0, .int x1, .int x2, .retAddr 0], [.int 1, .ref 0]) from rfl)).trans ?_
      exact K_calV (d := d) (Y := mX11_set) (Z := mX11_finding) (vs := [.int 1]) (rest := []) (la := [.ref 0, .int 1]) dX11_set_67 rfl rfl rfl rfl ⟨by decide, rfl⟩ (Nat.le_of_ble_eq_true rfl) rfl (Nat.le_of_ble_eq_true rfl)
  · rw [if_neg (show ¬ q_cc .eq y0 0 = true from fun z => c1 (of_decide_eq_true z))]
    refine Eq.trans ?_ (if_neg c1).symm
    refine (q_blk (Y := mX11_set) (q_dcC dX11_set_14 q_dcN) (show _ = some (15, [.ref 0, .int x1, .int x2, .retAddr 0], [.ref 0]) from rfl)).trans ?_
    refine (k_getr (Y := mX11_set) dX11_set_15 rfl rfl ⟨by decide, rfl⟩ (by decide) rfl).trans ?_
    refine (k_geti (Y := mX11_set) dX11_set_18 rfl rfl ⟨by decide, rfl⟩ (by decide) rfl).trans ?_
    refine (q_blk (Y := mX11_set) (q_dcC dX11_set_21 (q_dcC dX11_set_22 q_dcN)) (show _ = some (23, [.ref 0, .int x1, .int x2, .int (g 1 9)], [.ref 0]) from rfl)).trans ?_
    refine (k_getr (Y := mX11_set) dX11_set_23 rfl rfl ⟨by decide, rfl⟩ (by decide) rfl).trans ?_
    refine (q_blk (Y := mX11_set) (q_dcC dX11_set_26 q_dcN) (show _ = some (27, [.ref 0, .int x1, .int x2, .int (g 1 9)], [.int x2, .ref 1]) from rfl)).trans ?_
    refine (k_puti (Y := mX11_set) dX11_set_27 rfl ⟨by decide, rfl⟩ (by decide) rfl rfl rfl rfl).trans ?_
    refine (q_blk (Y := mX11_set) (q_dcC dX11_set_30 q_dcN) (show _ = some (31, [.ref 0, .int x1, .int x2, .int (g 1 9)], [.int (g 1 9)]) from rfl)).trans ?_
    exact k_iret (Y := mX11_set) dX11_set_31 rfl
theorem B_X11_set_44 {o : q_H} (d : Nat) (x1 x2 y0 : Int32) (g : Nat → Nat → Int32) : q_sem (d + 1) mX11_set 44 [.ref 0, .int x1, .int x2, .retAddr 0] [.int y0] (q_K o g) = (if y0 = 0 then (q_sem d mX11_finding 0 [.ref 0, .int 1] [] (q_K o g)).bind (fun r => q_sem (d + 1) mX11_set 70 [.ref 0, .int x1, .int x2, .retAddr 0] (r.1.toList ++ []) r.2) else some (some (.int (g 1 10)), q_K o (q_up g 1 10 x2))) := by
  refine (q_blk (Y := mX11_set) (q_dcC dX11_set_44 q_dcN) (show _ = some ((if q_cc .eq y0 0 = true then 65 else 47), [.ref 0, .int x1, .int x2, .retAddr 0], []) from rfl)).trans ?_
  by_cases c1 : y0 = 0
  · rw [if_pos (show q_cc .eq y0 0 = true from decide_eq_true c1)]
    refine Eq.trans ?_ (if_pos c1).symm
    refine (q_blk (Y := mX11_set) (q_dcC dX11_set_65 (q_dcC dX11_set_66 q_dcN)) (show _ = some (67, [.ref 0, .int x1, .int x2, .retAddr 0], [.int 1, .ref 0]) from rfl)).trans ?_
    exact K_calV (d := d) (Y := mX11_set) (Z := mX11_finding) (vs := [.int 1]) (rest := []) (la := [.ref 0, .int 1]) dX11_set_67 rfl rfl rfl rfl ⟨by decide, rfl⟩ (Nat.le_of_ble_eq_true rfl) rfl (Nat.le_of_ble_eq_true rfl)
  · rw [if_neg (show ¬ q_cc .eq y0 0 = true from fun z => c1 (of_decide_eq_true z))]
    refine Eq.trans ?_ (if_neg c1).symm
    refine (q_blk (Y := mX11_set) (q_dcC dX11_set_47 q_dcN) (show _ = some (48, [.ref 0, .int x1, .int x2, .retAddr 0], [.ref 0]) from rfl)).trans ?_
    refine (k_getr (Y := mX11_set) dX11_set_48 rfl rfl ⟨by decide, rfl⟩ (by decide) rfl).trans ?_
    refine (k_geti (Y := mX11_set) dX11_set_51 rfl rfl ⟨by decide, rfl⟩ (by decide) rfl).trans ?_
    refine (q_blk (Y := mX11_set) (q_dcC dX11_set_54 (q_dcC dX11_set_55 q_dcN)) (show _ = some (56, [.ref 0, .int x1, .int x2, .int (g 1 10)], [.ref 0]) from rfl)).trans ?_
    refine (k_getr (Y := mX11_set) dX11_set_56 rfl rfl ⟨by decide, rfl⟩ (by decide) rfl).trans ?_
    refine (q_blk (Y := mX11_set) (q_dcC dX11_set_59 q_dcN) (show _ = some (60, [.ref 0, .int x1, .int x2, .int (g 1 10)], [.int x2, .ref 1]) from rfl)).trans ?_
    refine (k_puti (Y := mX11_set) dX11_set_60 rfl ⟨by decide, rfl⟩ (by decide) rfl rfl rfl rfl).trans ?_
    refine (q_blk (Y := mX11_set) (q_dcC dX11_set_63 q_dcN) (show _ = some (64, [.ref 0, .int x1, .int x2, .int (g 1 10)], [.int (g 1 10)]) from rfl)).trans ?_
    exact k_iret (Y := mX11_set) dX11_set_64 rfl
theorem B_X11_set_70 {o : q_H} (d : Nat) (x1 x2 y0 : Int32) (g : Nat → Nat → Int32) : q_sem (d) mX11_set 70 [.ref 0, .int x1, .int x2, .retAddr 0] [.int y0] (q_K o g) = some (some (.int y0), q_K o g) := by
  exact k_iret (Y := mX11_set) dX11_set_70 rfl
theorem B_X11_watched_0 {o : q_H} (d : Nat) (x1 : Int32) (g : Nat → Nat → Int32) : q_sem (d + 1) mX11_watched 0 [.ref 0, .int x1] [] (q_K o g) = (q_sem d mX3_isCell 0 [.int x1] [] (q_K o g)).bind (fun r => q_sem (d + 1) mX11_watched 4 [.ref 0, .int x1] (r.1.toList ++ []) r.2) := by
  refine (q_blk (Y := mX11_watched) (q_dcC dX11_watched_0 q_dcN) (show _ = some (1, [.ref 0, .int x1], [.int x1]) from rfl)).trans ?_
  exact K_calS (d := d) (Y := mX11_watched) (Z := mX3_isCell) (vs := [.int x1]) (rest := []) (la := [.int x1]) dX11_watched_1 rfl rfl rfl rfl (Nat.le_of_ble_eq_true rfl) rfl (Nat.le_of_ble_eq_true rfl)
theorem B_X11_watched_4 {o : q_H} (d : Nat) (x1 y0 : Int32) (g : Nat → Nat → Int32) : q_sem (d + 1) mX11_watched 4 [.ref 0, .int x1] [.int y0] (q_K o g) = (if y0 = 0 then (q_sem d mX11_finding 0 [.ref 0, .int 1] [] (q_K o g)).bind (fun r => q_sem (d + 1) mX11_watched 12 [.ref 0, .int x1] (r.1.toList ++ []) r.2) else (q_sem d mX10_isSeen 0 [.ref 1, .int x1, .retAddr 0] [] (q_K o g)).bind (fun r => q_sem (d + 1) mX11_watched 21 [.ref 0, .int x1] (r.1.toList ++ []) r.2)) := by
  refine (q_blk (Y := mX11_watched) (q_dcC dX11_watched_4 q_dcN) (show _ = some ((if q_cc .ne y0 0 = true then 13 else 7), [.ref 0, .int x1], []) from rfl)).trans ?_
  by_cases c1 : y0 = 0
  · rw [if_neg (show ¬ q_cc .ne y0 0 = true from fun z => (of_decide_eq_true z : ¬ y0 = 0) c1)]
    refine Eq.trans ?_ (if_pos c1).symm
    refine (q_blk (Y := mX11_watched) (q_dcC dX11_watched_7 (q_dcC dX11_watched_8 q_dcN)) (show _ = some (9, [.ref 0, .int x1], [.int 1, .ref 0]) from rfl)).trans ?_
    exact K_calV (d := d) (Y := mX11_watched) (Z := mX11_finding) (vs := [.int 1]) (rest := []) (la := [.ref 0, .int 1]) dX11_watched_9 rfl rfl rfl rfl ⟨by decide, rfl⟩ (Nat.le_of_ble_eq_true rfl) rfl (Nat.le_of_ble_eq_true rfl)
  · rw [if_pos (show q_cc .ne y0 0 = true from decide_eq_true c1)]
    refine Eq.trans ?_ (if_neg c1).symm
    refine (q_blk (Y := mX11_watched) (q_dcC dX11_watched_13 q_dcN) (show _ = some (14, [.ref 0, .int x1], [.ref 0]) from rfl)).trans ?_
    refine (k_getr (Y := mX11_watched) dX11_watched_14 rfl rfl ⟨by decide, rfl⟩ (by decide) rfl).trans ?_
    refine (q_blk (Y := mX11_watched) (q_dcC dX11_watched_17 q_dcN) (show _ = some (18, [.ref 0, .int x1], [.int x1, .ref 1]) from rfl)).trans ?_
    exact K_calV (d := d) (Y := mX11_watched) (Z := mX10_isSeen) (vs := [.int x1]) (rest := []) (la := [.ref 1, .int x1, .retAddr 0]) dX11_watched_18 rfl rfl rfl rfl ⟨by decide, rfl⟩ (Nat.le_of_ble_eq_true rfl) rfl (Nat.le_of_ble_eq_true rfl)
theorem B_X11_watched_12 {o : q_H} (d : Nat) (x1 y0 : Int32) (g : Nat → Nat → Int32) : q_sem (d) mX11_watched 12 [.ref 0, .int x1] [.int y0] (q_K o g) = some (some (.int y0), q_K o g) := by
  exact k_iret (Y := mX11_watched) dX11_watched_12 rfl
theorem B_X11_watched_21 {o : q_H} (d : Nat) (x1 y0 : Int32) (g : Nat → Nat → Int32) : q_sem (d + 1) mX11_watched 21 [.ref 0, .int x1] [.int y0] (q_K o g) = (if y0 = 0 then (q_sem d mX10_isHeard 0 [.ref 1, .int x1, .retAddr 0] [] (q_K o g)).bind (fun r => q_sem (d + 1) mX11_watched 37 [.ref 0, .int x1] (r.1.toList ++ [.int 0]) r.2) else (q_sem d mX10_isHeard 0 [.ref 1, .int x1, .retAddr 0] [] (q_K o g)).bind (fun r => q_sem (d + 1) mX11_watched 37 [.ref 0, .int x1] (r.1.toList ++ [.int 1]) r.2)) := by
  refine (q_blk (Y := mX11_watched) (q_dcC dX11_watched_21 q_dcN) (show _ = some ((if q_cc .eq y0 0 = true then 28 else 24), [.ref 0, .int x1], []) from rfl)).trans ?_
  by_cases c1 : y0 = 0
  · rw [if_pos (show q_cc .eq y0 0 = true from decide_eq_true c1)]
    refine Eq.trans ?_ (if_pos c1).symm
    refine (q_blk (Y := mX11_watched) (q_dcC dX11_watched_28 (q_dcC dX11_watched_29 q_dcN)) (show _ = some (30, [.ref 0, .int x1], [.ref 0, .int 0]) from rfl)).trans ?_
    refine (k_getr (Y := mX11_watched) dX11_watched_30 rfl rfl ⟨by decide, rfl⟩ (by decide) rfl).trans ?_
    refine (q_blk (Y := mX11_watched) (q_dcC dX11_watched_33 q_dcN) (show _ = some (34, [.ref 0, .int x1], [.int x1, .ref 1, .int 0]) from rfl)).trans ?_
    exact K_calV (d := d) (Y := mX11_watched) (Z := mX10_isHeard) (vs := [.int x1]) (rest := [.int 0]) (la := [.ref 1, .int x1, .retAddr 0]) dX11_watched_34 rfl rfl rfl rfl ⟨by decide, rfl⟩ (Nat.le_of_ble_eq_true rfl) rfl (Nat.le_of_ble_eq_true rfl)
  · rw [if_neg (show ¬ q_cc .eq y0 0 = true from fun z => c1 (of_decide_eq_true z))]
    refine Eq.trans ?_ (if_neg c1).symm
    refine (q_blk (Y := mX11_watched) (q_dcC dX11_watched_24 (q_dcC dX11_watched_25 q_dcN)) (show _ = some (29, [.ref 0, .int x1], [.int 1]) from rfl)).trans ?_
    refine (q_blk (Y := mX11_watched) (q_dcC dX11_watched_29 q_dcN) (show _ = some (30, [.ref 0, .int x1], [.ref 0, .int 1]) from rfl)).trans ?_
    refine (k_getr (Y := mX11_watched) dX11_watched_30 rfl rfl ⟨by decide, rfl⟩ (by decide) rfl).trans ?_
    refine (q_blk (Y := mX11_watched) (q_dcC dX11_watched_33 q_dcN) (show _ = some (34, [.ref 0, .int x1], [.int x1, .ref 1, .int 1]) from rfl)).trans ?_
    exact K_calV (d := d) (Y := mX11_watched) (Z := mX10_isHeard) (vs := [.int x1]) (rest := [.int 1]) (la := [.ref 1, .int x1, .retAddr 0]) dX11_watched_34 rfl rfl rfl rfl ⟨by decide, rfl⟩ (Nat.le_of_ble_eq_true rfl) rfl (Nat.le_of_ble_eq_true rfl)
theorem B_X11_watched_37 {o : q_H} (d : Nat) (x1 y0 y1 : Int32) (g : Nat → Nat → Int32) : q_sem (d) mX11_watched 37 [.ref 0, .int x1] [.int y0, .int y1] (q_K o g) = (if y0 = 0 then some (some (.int (y1 + 0)), q_K o g) else some (some (.int (y1 + 2)), q_K o g)) := by
  refine (q_blk (Y := mX11_watched) (q_dcC dX11_watched_37 q_dcN) (show _ = some ((if q_cc .eq y0 0 = true then 44 else 40), [.ref 0, .int x1], [.int y1]) from rfl)).trans ?_
  by_cases c1 : y0 = 0
  · rw [if_pos (show q_cc .eq y0 0 = true from decide_eq_true c1)]
    refine Eq.trans ?_ (if_pos c1).symm
    refine (q_blk (Y := mX11_watched) (q_dcC dX11_watched_44 (q_dcC dX11_watched_45 q_dcN)) (show _ = some (46, [.ref 0, .int x1], [.int (y1 + 0)]) from rfl)).trans ?_
    exact k_iret (Y := mX11_watched) dX11_watched_46 rfl
  · rw [if_neg (show ¬ q_cc .eq y0 0 = true from fun z => c1 (of_decide_eq_true z))]
    refine Eq.trans ?_ (if_neg c1).symm
    refine (q_blk (Y := mX11_watched) (q_dcC dX11_watched_40 (q_dcC dX11_watched_41 q_dcN)) (show _ = some (45, [.ref 0, .int x1], [.int 2, .int y1]) from rfl)).trans ?_
    refine (q_blk (Y := mX11_watched) (q_dcC dX11_watched_45 q_dcN) (show _ = some (46, [.ref 0, .int x1], [.int (y1 + 2)]) from rfl)).trans ?_
    exact k_iret (Y := mX11_watched) dX11_watched_46 rfl
theorem B_X11_field_0 {o : q_H} (d : Nat) (x1 : Int32) (g : Nat → Nat → Int32) : q_sem (d + 1) mX11_field 0 [.ref 0, .int x1] [] (q_K o g) = (q_sem d mX3_isCell 0 [.int x1] [] (q_K o g)).bind (fun r => q_sem (d + 1) mX11_field 4 [.ref 0, .int x1] (r.1.toList ++ []) r.2) := by
  refine (q_blk (Y := mX11_field) (q_dcC dX11_field_0 q_dcN) (show _ = some (1, [.ref 0, .int x1], [.int x1]) from rfl)).trans ?_
  exact K_calS (d := d) (Y := mX11_field) (Z := mX3_isCell) (vs := [.int x1]) (rest := []) (la := [.int x1]) dX11_field_1 rfl rfl rfl rfl (Nat.le_of_ble_eq_true rfl) rfl (Nat.le_of_ble_eq_true rfl)
theorem B_X11_field_4 {o : q_H} (d : Nat) (x1 y0 : Int32) (g : Nat → Nat → Int32) : q_sem (d + 1) mX11_field 4 [.ref 0, .int x1] [.int y0] (q_K o g) = (if y0 = 0 then (q_sem d mX11_finding 0 [.ref 0, .int 1] [] (q_K o g)).bind (fun r => q_sem (d + 1) mX11_field 12 [.ref 0, .int x1] (r.1.toList ++ []) r.2) else (q_sem d mX7_add 0 [.ref 8, .int x1, .retAddr 0] [] (q_K o g)).bind (fun r => q_sem (d + 1) mX11_field 25 [.ref 0, .int x1] (r.1.toList ++ [.ref 0]) r.2)) := by
  refine (q_blk (Y := mX11_field) (q_dcC dX11_field_4 q_dcN) (show _ = some ((if q_cc .ne y0 0 = true then 13 else 7), [.ref 0, .int x1], []) from rfl)).trans ?_
  by_cases c1 : y0 = 0
  · rw [if_neg (show ¬ q_cc .ne y0 0 = true from fun z => (of_decide_eq_true z : ¬ y0 = 0) c1)]
    refine Eq.trans ?_ (if_pos c1).symm
    refine (q_blk (Y := mX11_field) (q_dcC dX11_field_7 (q_dcC dX11_field_8 q_dcN)) (show _ = some (9, [.ref 0, .int x1], [.int 1, .ref 0]) from rfl)).trans ?_
    exact K_calV (d := d) (Y := mX11_field) (Z := mX11_finding) (vs := [.int 1]) (rest := []) (la := [.ref 0, .int 1]) dX11_field_9 rfl rfl rfl rfl ⟨by decide, rfl⟩ (Nat.le_of_ble_eq_true rfl) rfl (Nat.le_of_ble_eq_true rfl)
  · rw [if_pos (show q_cc .ne y0 0 = true from decide_eq_true c1)]
    refine Eq.trans ?_ (if_neg c1).symm
    refine (q_blk (Y := mX11_field) (q_dcC dX11_field_13 (q_dcC dX11_field_14 q_dcN)) (show _ = some (15, [.ref 0, .int x1], [.ref 0, .ref 0]) from rfl)).trans ?_
    refine (k_getr (Y := mX11_field) dX11_field_15 rfl rfl ⟨by decide, rfl⟩ (by decide) rfl).trans ?_
    refine (k_getr (Y := mX11_field) dX11_field_18 rfl rfl ⟨by decide, rfl⟩ (by decide) rfl).trans ?_
    refine (q_blk (Y := mX11_field) (q_dcC dX11_field_21 q_dcN) (show _ = some (22, [.ref 0, .int x1], [.int x1, .ref 8, .ref 0]) from rfl)).trans ?_
    exact K_calV (d := d) (Y := mX11_field) (Z := mX7_add) (vs := [.int x1]) (rest := [.ref 0]) (la := [.ref 8, .int x1, .retAddr 0]) dX11_field_22 rfl rfl rfl rfl ⟨by decide, rfl⟩ (Nat.le_of_ble_eq_true rfl) rfl (Nat.le_of_ble_eq_true rfl)
theorem B_X11_field_12 {o : q_H} (d : Nat) (x1 y0 : Int32) (g : Nat → Nat → Int32) : q_sem (d) mX11_field 12 [.ref 0, .int x1] [.int y0] (q_K o g) = some (some (.int y0), q_K o g) := by
  exact k_iret (Y := mX11_field) dX11_field_12 rfl
theorem B_X11_field_25 {o : q_H} (d : Nat) (x1 y0 : Int32) (g : Nat → Nat → Int32) : q_sem (d + 1) mX11_field 25 [.ref 0, .int x1] [.int y0, .ref 0] (q_K o g) = (q_sem d mX11_numberOrFull 0 [.ref 0, .int y0] [] (q_K o g)).bind (fun r => q_sem (d + 1) mX11_field 28 [.ref 0, .int x1] (r.1.toList ++ []) r.2) := by
  exact K_calV (d := d) (Y := mX11_field) (Z := mX11_numberOrFull) (vs := [.int y0]) (rest := []) (la := [.ref 0, .int y0]) dX11_field_25 rfl rfl rfl rfl ⟨by decide, rfl⟩ (Nat.le_of_ble_eq_true rfl) rfl (Nat.le_of_ble_eq_true rfl)
theorem B_X11_field_28 {o : q_H} (d : Nat) (x1 y0 : Int32) (g : Nat → Nat → Int32) : q_sem (d) mX11_field 28 [.ref 0, .int x1] [.int y0] (q_K o g) = some (some (.int y0), q_K o g) := by
  exact k_iret (Y := mX11_field) dX11_field_28 rfl
theorem B_X11_town_0 {o : q_H} (d : Nat) (x1 : Int32) (g : Nat → Nat → Int32) : q_sem (d + 1) mX11_town 0 [.ref 0, .int x1] [] (q_K o g) = (q_sem d mX3_isCell 0 [.int x1] [] (q_K o g)).bind (fun r => q_sem (d + 1) mX11_town 4 [.ref 0, .int x1] (r.1.toList ++ []) r.2) := by
  refine (q_blk (Y := mX11_town) (q_dcC dX11_town_0 q_dcN) (show _ = some (1, [.ref 0, .int x1], [.int x1]) from rfl)).trans ?_
  exact K_calS (d := d) (Y := mX11_town) (Z := mX3_isCell) (vs := [.int x1]) (rest := []) (la := [.int x1]) dX11_town_1 rfl rfl rfl rfl (Nat.le_of_ble_eq_true rfl) rfl (Nat.le_of_ble_eq_true rfl)
theorem B_X11_town_4 {o : q_H} (d : Nat) (x1 y0 : Int32) (g : Nat → Nat → Int32) : q_sem (d + 1) mX11_town 4 [.ref 0, .int x1] [.int y0] (q_K o g) = (if y0 = 0 then (q_sem d mX11_finding 0 [.ref 0, .int 1] [] (q_K o g)).bind (fun r => q_sem (d + 1) mX11_town 12 [.ref 0, .int x1] (r.1.toList ++ []) r.2) else (q_sem d mX7_add 0 [.ref 10, .int x1, .retAddr 0] [] (q_K o g)).bind (fun r => q_sem (d + 1) mX11_town 25 [.ref 0, .int x1] (r.1.toList ++ [.ref 0]) r.2)) := by
  refine (q_blk (Y := mX11_town) (q_dcC dX11_town_4 q_dcN) (show _ = some ((if q_cc .ne y0 0 = true then 13 else 7), [.ref 0, .int x1], []) from rfl)).trans ?_
  by_cases c1 : y0 = 0
  · rw [if_neg (show ¬ q_cc .ne y0 0 = true from fun z => (of_decide_eq_true z : ¬ y0 = 0) c1)]
    refine Eq.trans ?_ (if_pos c1).symm
    refine (q_blk (Y := mX11_town) (q_dcC dX11_town_7 (q_dcC dX11_town_8 q_dcN)) (show _ = some (9, [.ref 0, .int x1], [.int 1, .ref 0]) from rfl)).trans ?_
    exact K_calV (d := d) (Y := mX11_town) (Z := mX11_finding) (vs := [.int 1]) (rest := []) (la := [.ref 0, .int 1]) dX11_town_9 rfl rfl rfl rfl ⟨by decide, rfl⟩ (Nat.le_of_ble_eq_true rfl) rfl (Nat.le_of_ble_eq_true rfl)
  · rw [if_pos (show q_cc .ne y0 0 = true from decide_eq_true c1)]
    refine Eq.trans ?_ (if_neg c1).symm
    refine (q_blk (Y := mX11_town) (q_dcC dX11_town_13 (q_dcC dX11_town_14 q_dcN)) (show _ = some (15, [.ref 0, .int x1], [.ref 0, .ref 0]) from rfl)).trans ?_
    refine (k_getr (Y := mX11_town) dX11_town_15 rfl rfl ⟨by decide, rfl⟩ (by decide) rfl).trans ?_
    refine (k_getr (Y := mX11_town) dX11_town_18 rfl rfl ⟨by decide, rfl⟩ (by decide) rfl).trans ?_
    refine (q_blk (Y := mX11_town) (q_dcC dX11_town_21 q_dcN) (show _ = some (22, [.ref 0, .int x1], [.int x1, .ref 10, .ref 0]) from rfl)).trans ?_
    exact K_calV (d := d) (Y := mX11_town) (Z := mX7_add) (vs := [.int x1]) (rest := [.ref 0]) (la := [.ref 10, .int x1, .retAddr 0]) dX11_town_22 rfl rfl rfl rfl ⟨by decide, rfl⟩ (Nat.le_of_ble_eq_true rfl) rfl (Nat.le_of_ble_eq_true rfl)
theorem B_X11_town_12 {o : q_H} (d : Nat) (x1 y0 : Int32) (g : Nat → Nat → Int32) : q_sem (d) mX11_town 12 [.ref 0, .int x1] [.int y0] (q_K o g) = some (some (.int y0), q_K o g) := by
  exact k_iret (Y := mX11_town) dX11_town_12 rfl
theorem B_X11_town_25 {o : q_H} (d : Nat) (x1 y0 : Int32) (g : Nat → Nat → Int32) : q_sem (d + 1) mX11_town 25 [.ref 0, .int x1] [.int y0, .ref 0] (q_K o g) = (q_sem d mX11_numberOrFull 0 [.ref 0, .int y0] [] (q_K o g)).bind (fun r => q_sem (d + 1) mX11_town 28 [.ref 0, .int x1] (r.1.toList ++ []) r.2) := by
  exact K_calV (d := d) (Y := mX11_town) (Z := mX11_numberOrFull) (vs := [.int y0]) (rest := []) (la := [.ref 0, .int y0]) dX11_town_25 rfl rfl rfl rfl ⟨by decide, rfl⟩ (Nat.le_of_ble_eq_true rfl) rfl (Nat.le_of_ble_eq_true rfl)
theorem B_X11_town_28 {o : q_H} (d : Nat) (x1 y0 : Int32) (g : Nat → Nat → Int32) : q_sem (d) mX11_town 28 [.ref 0, .int x1] [.int y0] (q_K o g) = some (some (.int y0), q_K o g) := by
  exact k_iret (Y := mX11_town) dX11_town_28 rfl
theorem B_X11_townIs_0 {o : q_H} (d : Nat) (x1 x2 : Int32) (g : Nat → Nat → Int32) : q_sem (d + 1) mX11_townIs 0 [.ref 0, .int x1, .int x2] [] (q_K o g) = (q_sem d mX7_has 0 [.ref 10, .int x1] [] (q_K o g)).bind (fun r => q_sem (d + 1) mX11_townIs 11 [.ref 0, .int x1, .int x2] (r.1.toList ++ []) r.2) := by
  refine (q_blk (Y := mX11_townIs) (q_dcC dX11_townIs_0 q_dcN) (show _ = some (1, [.ref 0, .int x1, .int x2], [.ref 0]) from rfl)).trans ?_
  refine (k_getr (Y := mX11_townIs) dX11_townIs_1 rfl rfl ⟨by decide, rfl⟩ (by decide) rfl).trans ?_
  refine (k_getr (Y := mX11_townIs) dX11_townIs_4 rfl rfl ⟨by decide, rfl⟩ (by decide) rfl).trans ?_
  refine (q_blk (Y := mX11_townIs) (q_dcC dX11_townIs_7 q_dcN) (show _ = some (8, [.ref 0, .int x1, .int x2], [.int x1, .ref 10]) from rfl)).trans ?_
  exact K_calV (d := d) (Y := mX11_townIs) (Z := mX7_has) (vs := [.int x1]) (rest := []) (la := [.ref 10, .int x1]) dX11_townIs_8 rfl rfl rfl rfl ⟨by decide, rfl⟩ (Nat.le_of_ble_eq_true rfl) rfl (Nat.le_of_ble_eq_true rfl)
theorem B_X11_townIs_11 {o : q_H} (d : Nat) (x1 x2 y0 : Int32) (g : Nat → Nat → Int32) : q_sem (d + 1) mX11_townIs 11 [.ref 0, .int x1, .int x2] [.int y0] (q_K o g) = (if y0 = 0 then (q_sem d mX11_finding 0 [.ref 0, .int 1] [] (q_K o g)).bind (fun r => q_sem (d + 1) mX11_townIs 28 [.ref 0, .int x1, .int x2] (r.1.toList ++ []) r.2) else (q_sem d mX11_within 0 [.int x2, .int 0, .int 4] [] (q_K o g)).bind (fun r => q_sem (d + 1) mX11_townIs 20 [.ref 0, .int x1, .int x2] (r.1.toList ++ []) r.2)) := by
  refine (q_blk (Y := mX11_townIs) (q_dcC dX11_townIs_11 q_dcN) (show _ = some ((if q_cc .eq y0 0 = true then 23 else 14), [.ref 0, .int x1, .int x2], []) from rfl)).trans ?_
  by_cases c1 : y0 = 0
  · rw [if_pos (show q_cc .eq y0 0 = true from decide_eq_true c1)]
    refine Eq.trans ?_ (if_pos c1).symm
    refine (q_blk (Y := mX11_townIs) (q_dcC dX11_townIs_23 (q_dcC dX11_townIs_24 q_dcN)) (show _ = some (25, [.ref 0, .int x1, .int x2], [.int 1, .ref 0]) from rfl)).trans ?_
    exact K_calV (d := d) (Y := mX11_townIs) (Z := mX11_finding) (vs := [.int 1]) (rest := []) (la := [.ref 0, .int 1]) dX11_townIs_25 rfl rfl rfl rfl ⟨by decide, rfl⟩ (Nat.le_of_ble_eq_true rfl) rfl (Nat.le_of_ble_eq_true rfl)
  · rw [if_neg (show ¬ q_cc .eq y0 0 = true from fun z => c1 (of_decide_eq_true z))]
    refine Eq.trans ?_ (if_neg c1).symm
    refine (q_blk (Y := mX11_townIs) (q_dcC dX11_townIs_14 (q_dcC dX11_townIs_15 (q_dcC dX11_townIs_16 q_dcN))) (show _ = some (17, [.ref 0, .int x1, .int x2], [.int 4, .int 0, .int x2]) from rfl)).trans ?_
    exact K_calS (d := d) (Y := mX11_townIs) (Z := mX11_within) (vs := [.int x2, .int 0, .int 4]) (rest := []) (la := [.int x2, .int 0, .int 4]) dX11_townIs_17 rfl rfl rfl rfl (Nat.le_of_ble_eq_true rfl) rfl (Nat.le_of_ble_eq_true rfl)
theorem B_X11_townIs_28 {o : q_H} (d : Nat) (x1 x2 y0 : Int32) (g : Nat → Nat → Int32) : q_sem (d) mX11_townIs 28 [.ref 0, .int x1, .int x2] [.int y0] (q_K o g) = some (some (.int y0), q_K o g) := by
  exact k_iret (Y := mX11_townIs) dX11_townIs_28 rfl
theorem B_X11_townIs_20 {o : q_H} (d : Nat) (x1 x2 y0 : Int32) (g : Nat → Nat → Int32) : q_sem (d + 1) mX11_townIs 20 [.ref 0, .int x1, .int x2] [.int y0] (q_K o g) = (if y0 = 0 then (q_sem d mX11_finding 0 [.ref 0, .int 1] [] (q_K o g)).bind (fun r => q_sem (d + 1) mX11_townIs 28 [.ref 0, .int x1, .int x2] (r.1.toList ++ []) r.2) else (if x2 = 4 then (q_sem d mX7_get 0 [.ref 10, .int x1, .int 0] [] (q_K o g)).bind (fun r => q_sem (d + 1) mX11_townIs 50 [.ref 0, .int x1, .int x2] (r.1.toList ++ [.ref 1]) r.2) else (q_sem d mX7_get 0 [.ref 10, .int x1, .int x2] [] (q_K o g)).bind (fun r => q_sem (d + 1) mX11_townIs 68 [.ref 0, .int x1, .int x2] (r.1.toList ++ []) r.2))) := by
  refine (q_blk (Y := mX11_townIs) (q_dcC dX11_townIs_20 q_dcN) (show _ = some ((if q_cc .ne y0 0 = true then 29 else 23), [.ref 0, .int x1, .int x2], []) from rfl)).trans ?_
  by_cases c1 : y0 = 0
  · rw [if_neg (show ¬ q_cc .ne y0 0 = true from fun z => (of_decide_eq_true z : ¬ y0 = 0) c1)]
    refine Eq.trans ?_ (if_pos c1).symm
    refine (q_blk (Y := mX11_townIs) (q_dcC dX11_townIs_23 (q_dcC dX11_townIs_24 q_dcN)) (show _ = some (25, [.ref 0, .int x1, .int x2], [.int 1, .ref 0]) from rfl)).trans ?_
    exact K_calV (d := d) (Y := mX11_townIs) (Z := mX11_finding) (vs := [.int 1]) (rest := []) (la := [.ref 0, .int 1]) dX11_townIs_25 rfl rfl rfl rfl ⟨by decide, rfl⟩ (Nat.le_of_ble_eq_true rfl) rfl (Nat.le_of_ble_eq_true rfl)
  · rw [if_pos (show q_cc .ne y0 0 = true from decide_eq_true c1)]
    refine Eq.trans ?_ (if_neg c1).symm
    refine (q_blk (Y := mX11_townIs) (q_dcC dX11_townIs_29 (q_dcC dX11_townIs_30 (q_dcC dX11_townIs_31 q_dcN))) (show _ = some ((if q_cc .ne x2 4 = true then 56 else 34), [.ref 0, .int x1, .int x2], []) from rfl)).trans ?_
    by_cases c2 : x2 = 4
    · rw [if_neg (show ¬ q_cc .ne x2 4 = true from fun z => (of_decide_eq_true z : ¬ x2 = 4) c2)]
      refine Eq.trans ?_ (if_pos c2).symm
      refine (q_blk (Y := mX11_townIs) (q_dcC dX11_townIs_34 q_dcN) (show _ = some (35, [.ref 0, .int x1, .int x2], [.ref 0]) from rfl)).trans ?_
      refine (k_getr (Y := mX11_townIs) dX11_townIs_35 rfl rfl ⟨by decide, rfl⟩ (by decide) rfl).trans ?_
      refine (q_blk (Y := mX11_townIs) (q_dcC dX11_townIs_38 q_dcN) (show _ = some (39, [.ref 0, .int x1, .int x2], [.ref 0, .ref 1]) from rfl)).trans ?_
      refine (k_getr (Y := mX11_townIs) dX11_townIs_39 rfl rfl ⟨by decide, rfl⟩ (by decide) rfl).trans ?_
      refine (k_getr (Y := mX11_townIs) dX11_townIs_42 rfl rfl ⟨by decide, rfl⟩ (by decide) rfl).trans ?_
      refine (q_blk (Y := mX11_townIs) (q_dcC dX11_townIs_45 (q_dcC dX11_townIs_46 q_dcN)) (show _ = some (47, [.ref 0, .int x1, .int x2], [.int 0, .int x1, .ref 10, .ref 1]) from rfl)).trans ?_
      exact K_calV (d := d) (Y := mX11_townIs) (Z := mX7_get) (vs := [.int x1, .int 0]) (rest := [.ref 1]) (la := [.ref 10, .int x1, .int 0]) dX11_townIs_47 rfl rfl rfl rfl ⟨by decide, rfl⟩ (Nat.le_of_ble_eq_true rfl) rfl (Nat.le_of_ble_eq_true rfl)
    · rw [if_pos (show q_cc .ne x2 4 = true from decide_eq_true c2)]
      refine Eq.trans ?_ (if_neg c2).symm
      refine (q_blk (Y := mX11_townIs) (q_dcC dX11_townIs_56 q_dcN) (show _ = some (57, [.ref 0, .int x1, .int x2], [.ref 0]) from rfl)).trans ?_
      refine (k_getr (Y := mX11_townIs) dX11_townIs_57 rfl rfl ⟨by decide, rfl⟩ (by decide) rfl).trans ?_
      refine (k_getr (Y := mX11_townIs) dX11_townIs_60 rfl rfl ⟨by decide, rfl⟩ (by decide) rfl).trans ?_
      refine (q_blk (Y := mX11_townIs) (q_dcC dX11_townIs_63 (q_dcC dX11_townIs_64 q_dcN)) (show _ = some (65, [.ref 0, .int x1, .int x2], [.int x2, .int x1, .ref 10]) from rfl)).trans ?_
      exact K_calV (d := d) (Y := mX11_townIs) (Z := mX7_get) (vs := [.int x1, .int x2]) (rest := []) (la := [.ref 10, .int x1, .int x2]) dX11_townIs_65 rfl rfl rfl rfl ⟨by decide, rfl⟩ (Nat.le_of_ble_eq_true rfl) rfl (Nat.le_of_ble_eq_true rfl)
theorem B_X11_townIs_50 {o : q_H} (d : Nat) (x1 x2 y0 : Int32) (g : Nat → Nat → Int32) : q_sem (d + 1) mX11_townIs 50 [.ref 0, .int x1, .int x2] [.int y0, .ref 1] (q_K o g) = (q_sem d mX10_nearestRaid 0 [.ref 1, .int y0, .retAddr 0, .retAddr 0] [] (q_K o g)).bind (fun r => q_sem (d + 1) mX11_townIs 53 [.ref 0, .int x1, .int x2] (r.1.toList ++ []) r.2) := by
  exact K_calV (d := d) (Y := mX11_townIs) (Z := mX10_nearestRaid) (vs := [.int y0]) (rest := []) (la := [.ref 1, .int y0, .retAddr 0, .retAddr 0]) dX11_townIs_50 rfl rfl rfl rfl ⟨by decide, rfl⟩ (Nat.le_of_ble_eq_true rfl) rfl (Nat.le_of_ble_eq_true rfl)
theorem B_X11_townIs_68 {o : q_H} (d : Nat) (x1 x2 y0 : Int32) (g : Nat → Nat → Int32) : q_sem (d) mX11_townIs 68 [.ref 0, .int x1, .int x2] [.int y0] (q_K o g) = some (some (.int y0), q_K o g) := by
  exact k_iret (Y := mX11_townIs) dX11_townIs_68 rfl
theorem B_X11_townIs_53 {o : q_H} (d : Nat) (x1 x2 y0 : Int32) (g : Nat → Nat → Int32) : q_sem (d) mX11_townIs 53 [.ref 0, .int x1, .int x2] [.int y0] (q_K o g) = some (some (.int y0), q_K o g) := by
  refine (q_blk (Y := mX11_townIs) (q_dcC dX11_townIs_53 q_dcN) (show _ = some (68, [.ref 0, .int x1, .int x2], [.int y0]) from rfl)).trans ?_
  exact k_iret (Y := mX11_townIs) dX11_townIs_68 rfl
theorem B_X11_plot_0 {o : q_H} (d : Nat) (x1 x2 : Int32) (g : Nat → Nat → Int32) : q_sem (d + 1) mX11_plot 0 [.ref 0, .int x1, .int x2] [] (q_K o g) = (q_sem d mX11_isTold 0 [.int x1, .int x2] [] (q_K o g)).bind (fun r => q_sem (d + 1) mX11_plot 5 [.ref 0, .int x1, .int x2] (r.1.toList ++ []) r.2) := by
  refine (q_blk (Y := mX11_plot) (q_dcC dX11_plot_0 (q_dcC dX11_plot_1 q_dcN)) (show _ = some (2, [.ref 0, .int x1, .int x2], [.int x2, .int x1]) from rfl)).trans ?_
  exact K_calS (d := d) (Y := mX11_plot) (Z := mX11_isTold) (vs := [.int x1, .int x2]) (rest := []) (la := [.int x1, .int x2]) dX11_plot_2 rfl rfl rfl rfl (Nat.le_of_ble_eq_true rfl) rfl (Nat.le_of_ble_eq_true rfl)
theorem B_X11_plot_5 {o : q_H} (d : Nat) (x1 x2 y0 : Int32) (g : Nat → Nat → Int32) : q_sem (d + 1) mX11_plot 5 [.ref 0, .int x1, .int x2] [.int y0] (q_K o g) = (if y0 = 0 then (q_sem d mX11_finding 0 [.ref 0, .int 1] [] (q_K o g)).bind (fun r => q_sem (d + 1) mX11_plot 13 [.ref 0, .int x1, .int x2] (r.1.toList ++ []) r.2) else (q_sem d mX10_isWatched 0 [.ref 1, .int x1] [] (q_K o g)).bind (fun r => q_sem (d + 1) mX11_plot 22 [.ref 0, .int x1, .int x2] (r.1.toList ++ []) r.2)) := by
  refine (q_blk (Y := mX11_plot) (q_dcC dX11_plot_5 q_dcN) (show _ = some ((if q_cc .ne y0 0 = true then 14 else 8), [.ref 0, .int x1, .int x2], []) from rfl)).trans ?_
  by_cases c1 : y0 = 0
  · rw [if_neg (show ¬ q_cc .ne y0 0 = true from fun z => (of_decide_eq_true z : ¬ y0 = 0) c1)]
    refine Eq.trans ?_ (if_pos c1).symm
    refine (q_blk (Y := mX11_plot) (q_dcC dX11_plot_8 (q_dcC dX11_plot_9 q_dcN)) (show _ = some (10, [.ref 0, .int x1, .int x2], [.int 1, .ref 0]) from rfl)).trans ?_
    exact K_calV (d := d) (Y := mX11_plot) (Z := mX11_finding) (vs := [.int 1]) (rest := []) (la := [.ref 0, .int 1]) dX11_plot_10 rfl rfl rfl rfl ⟨by decide, rfl⟩ (Nat.le_of_ble_eq_true rfl) rfl (Nat.le_of_ble_eq_true rfl)
  · rw [if_pos (show q_cc .ne y0 0 = true from decide_eq_true c1)]
    refine Eq.trans ?_ (if_neg c1).symm
    refine (q_blk (Y := mX11_plot) (q_dcC dX11_plot_14 q_dcN) (show _ = some (15, [.ref 0, .int x1, .int x2], [.ref 0]) from rfl)).trans ?_
    refine (k_getr (Y := mX11_plot) dX11_plot_15 rfl rfl ⟨by decide, rfl⟩ (by decide) rfl).trans ?_
    refine (q_blk (Y := mX11_plot) (q_dcC dX11_plot_18 q_dcN) (show _ = some (19, [.ref 0, .int x1, .int x2], [.int x1, .ref 1]) from rfl)).trans ?_
    exact K_calV (d := d) (Y := mX11_plot) (Z := mX10_isWatched) (vs := [.int x1]) (rest := []) (la := [.ref 1, .int x1]) dX11_plot_19 rfl rfl rfl rfl ⟨by decide, rfl⟩ (Nat.le_of_ble_eq_true rfl) rfl (Nat.le_of_ble_eq_true rfl)
theorem B_X11_plot_13 {o : q_H} (d : Nat) (x1 x2 y0 : Int32) (g : Nat → Nat → Int32) : q_sem (d) mX11_plot 13 [.ref 0, .int x1, .int x2] [.int y0] (q_K o g) = some (some (.int y0), q_K o g) := by
  exact k_iret (Y := mX11_plot) dX11_plot_13 rfl
theorem B_X11_plot_22 {o : q_H} (d : Nat) (x1 x2 y0 : Int32) (g : Nat → Nat → Int32) : q_sem (d + 1) mX11_plot 22 [.ref 0, .int x1, .int x2] [.int y0] (q_K o g) = (if y0 = 0 then (q_sem d mX11_finding 0 [.ref 0, .int 3] [] (q_K o g)).bind (fun r => q_sem (d + 1) mX11_plot 30 [.ref 0, .int x1, .int x2] (r.1.toList ++ []) r.2) else (q_sem d mX10_addPlot 0 [.ref 1, .int x1, .int x2, .retAddr 0] [] (q_K o g)).bind (fun r => q_sem (d + 1) mX11_plot 41 [.ref 0, .int x1, .int x2] (r.1.toList ++ [.ref 0]) r.2)) := by
  refine (q_blk (Y := mX11_plot) (q_dcC dX11_plot_22 q_dcN) (show _ = some ((if q_cc .ne y0 0 = true then 31 else 25), [.ref 0, .int x1, .int x2], []) from rfl)).trans ?_
  by_cases c1 : y0 = 0
  · rw [if_neg (show ¬ q_cc .ne y0 0 = true from fun z => (of_decide_eq_true z : ¬ y0 = 0) c1)]
    refine Eq.trans ?_ (if_pos c1).symm
    refine (q_blk (Y := mX11_plot) (q_dcC dX11_plot_25 (q_dcC dX11_plot_26 q_dcN)) (show _ = some (27, [.ref 0, .int x1, .int x2], [.int 3, .ref 0]) from rfl)).trans ?_
    exact K_calV (d := d) (Y := mX11_plot) (Z := mX11_finding) (vs := [.int 3]) (rest := []) (la := [.ref 0, .int 3]) dX11_plot_27 rfl rfl rfl rfl ⟨by decide, rfl⟩ (Nat.le_of_ble_eq_true rfl) rfl (Nat.le_of_ble_eq_true rfl)
  · rw [if_pos (show q_cc .ne y0 0 = true from decide_eq_true c1)]
    refine Eq.trans ?_ (if_neg c1).symm
    refine (q_blk (Y := mX11_plot) (q_dcC dX11_plot_31 (q_dcC dX11_plot_32 q_dcN)) (show _ = some (33, [.ref 0, .int x1, .int x2], [.ref 0, .ref 0]) from rfl)).trans ?_
    refine (k_getr (Y := mX11_plot) dX11_plot_33 rfl rfl ⟨by decide, rfl⟩ (by decide) rfl).trans ?_
    refine (q_blk (Y := mX11_plot) (q_dcC dX11_plot_36 (q_dcC dX11_plot_37 q_dcN)) (show _ = some (38, [.ref 0, .int x1, .int x2], [.int x2, .int x1, .ref 1, .ref 0]) from rfl)).trans ?_
    exact K_calV (d := d) (Y := mX11_plot) (Z := mX10_addPlot) (vs := [.int x1, .int x2]) (rest := [.ref 0]) (la := [.ref 1, .int x1, .int x2, .retAddr 0]) dX11_plot_38 rfl rfl rfl rfl ⟨by decide, rfl⟩ (Nat.le_of_ble_eq_true rfl) rfl (Nat.le_of_ble_eq_true rfl)
theorem B_X11_plot_30 {o : q_H} (d : Nat) (x1 x2 y0 : Int32) (g : Nat → Nat → Int32) : q_sem (d) mX11_plot 30 [.ref 0, .int x1, .int x2] [.int y0] (q_K o g) = some (some (.int y0), q_K o g) := by
  exact k_iret (Y := mX11_plot) dX11_plot_30 rfl
theorem B_X11_plot_41 {o : q_H} (d : Nat) (x1 x2 y0 : Int32) (g : Nat → Nat → Int32) : q_sem (d + 1) mX11_plot 41 [.ref 0, .int x1, .int x2] [.int y0, .ref 0] (q_K o g) = (q_sem d mX11_numberOrFull 0 [.ref 0, .int y0] [] (q_K o g)).bind (fun r => q_sem (d + 1) mX11_plot 44 [.ref 0, .int x1, .int x2] (r.1.toList ++ []) r.2) := by
  exact K_calV (d := d) (Y := mX11_plot) (Z := mX11_numberOrFull) (vs := [.int y0]) (rest := []) (la := [.ref 0, .int y0]) dX11_plot_41 rfl rfl rfl rfl ⟨by decide, rfl⟩ (Nat.le_of_ble_eq_true rfl) rfl (Nat.le_of_ble_eq_true rfl)
theorem B_X11_plot_44 {o : q_H} (d : Nat) (x1 x2 y0 : Int32) (g : Nat → Nat → Int32) : q_sem (d) mX11_plot 44 [.ref 0, .int x1, .int x2] [.int y0] (q_K o g) = some (some (.int y0), q_K o g) := by
  exact k_iret (Y := mX11_plot) dX11_plot_44 rfl
theorem B_X11_plots_0 {o : q_H} (d : Nat) (x1 : Int32) (g : Nat → Nat → Int32) : q_sem (d + 1) mX11_plots 0 [.ref 0, .int x1, .retAddr 0, .retAddr 0, .retAddr 0, .retAddr 0] [] (q_K o g) = (q_sem d mX6_wanting 0 [.ref 69, .int x1] [] (q_K o g)).bind (fun r => q_sem (d + 1) mX11_plots 8 [.ref 0, .int x1, .retAddr 0, .retAddr 0, .retAddr 0, .retAddr 0] (r.1.toList ++ []) r.2) := by
  refine (q_blk (Y := mX11_plots) (q_dcC dX11_plots_0 q_dcN) (show _ = some (1, [.ref 0, .int x1, .retAddr 0, .retAddr 0, .retAddr 0, .retAddr 0], [.ref 0]) from rfl)).trans ?_
  refine (k_getr (Y := mX11_plots) dX11_plots_1 rfl rfl ⟨by decide, rfl⟩ (by decide) rfl).trans ?_
  refine (q_blk (Y := mX11_plots) (q_dcC dX11_plots_4 q_dcN) (show _ = some (5, [.ref 0, .int x1, .retAddr 0, .retAddr 0, .retAddr 0, .retAddr 0], [.int x1, .ref 69]) from rfl)).trans ?_
  exact K_calV (d := d) (Y := mX11_plots) (Z := mX6_wanting) (vs := [.int x1]) (rest := []) (la := [.ref 69, .int x1]) dX11_plots_5 rfl rfl rfl rfl ⟨by decide, rfl⟩ (Nat.le_of_ble_eq_true rfl) rfl (Nat.le_of_ble_eq_true rfl)
theorem B_X11_plots_8 {o : q_H} (d : Nat) (x1 y0 : Int32) (g : Nat → Nat → Int32) : q_sem (d + 1) mX11_plots 8 [.ref 0, .int x1, .retAddr 0, .retAddr 0, .retAddr 0, .retAddr 0] [.int y0] (q_K o g) = (if y0 = 0 then (q_sem d mX6_size 0 [.ref 69, .int x1] [] (q_K o g)).bind (fun r => q_sem (d + 1) mX11_plots 27 [.ref 0, .int x1, .int y0, .retAddr 0, .retAddr 0, .retAddr 0] (r.1.toList ++ []) r.2) else (q_sem d mX11_finding 0 [.ref 0, .int y0] [] (q_K o g)).bind (fun r => q_sem (d + 1) mX11_plots 18 [.ref 0, .int x1, .int y0, .retAddr 0, .retAddr 0, .retAddr 0] (r.1.toList ++ []) r.2)) := by
  refine (q_blk (Y := mX11_plots) (q_dcC dX11_plots_8 (q_dcC dX11_plots_9 (q_dcC dX11_plots_10 q_dcN))) (show _ = some ((if q_cc .eq y0 0 = true then 19 else 13), [.ref 0, .int x1, .int y0, .retAddr 0, .retAddr 0, .retAddr 0], []) from rfl)).trans ?_
  by_cases c1 : y0 = 0
  · rw [if_pos (show q_cc .eq y0 0 = true from decide_eq_true c1)]
    refine Eq.trans ?_ (if_pos c1).symm
    refine (q_blk (Y := mX11_plots) (q_dcC dX11_plots_19 q_dcN) (show _ = some (20, [.ref 0, .int x1, .int y0, .retAddr 0, .retAddr 0, .retAddr 0], [.ref 0]) from rfl)).trans ?_
    refine (k_getr (Y := mX11_plots) dX11_plots_20 rfl rfl ⟨by decide, rfl⟩ (by decide) rfl).trans ?_
    refine (q_blk (Y := mX11_plots) (q_dcC dX11_plots_23 q_dcN) (show _ = some (24, [.ref 0, .int x1, .int y0, .retAddr 0, .retAddr 0, .retAddr 0], [.int x1, .ref 69]) from rfl)).trans ?_
    exact K_calV (d := d) (Y := mX11_plots) (Z := mX6_size) (vs := [.int x1]) (rest := []) (la := [.ref 69, .int x1]) dX11_plots_24 rfl rfl rfl rfl ⟨by decide, rfl⟩ (Nat.le_of_ble_eq_true rfl) rfl (Nat.le_of_ble_eq_true rfl)
  · rw [if_neg (show ¬ q_cc .eq y0 0 = true from fun z => c1 (of_decide_eq_true z))]
    refine Eq.trans ?_ (if_neg c1).symm
    refine (q_blk (Y := mX11_plots) (q_dcC dX11_plots_13 (q_dcC dX11_plots_14 q_dcN)) (show _ = some (15, [.ref 0, .int x1, .int y0, .retAddr 0, .retAddr 0, .retAddr 0], [.int y0, .ref 0]) from rfl)).trans ?_
    exact K_calV (d := d) (Y := mX11_plots) (Z := mX11_finding) (vs := [.int y0]) (rest := []) (la := [.ref 0, .int y0]) dX11_plots_15 rfl rfl rfl rfl ⟨by decide, rfl⟩ (Nat.le_of_ble_eq_true rfl) rfl (Nat.le_of_ble_eq_true rfl)
theorem B_X11_plots_27 {o : q_H} (d : Nat) (x1 x2 y0 : Int32) (g : Nat → Nat → Int32) : q_sem (d + 1) mX11_plots 27 [.ref 0, .int x1, .int x2, .retAddr 0, .retAddr 0, .retAddr 0] [.int y0] (q_K o g) = (if (y0 - y0 / 2 * 2) = 0 then q_sem (d + 1) mX11_plots 43 [.ref 0, .int x1, .int x2, .int 0, .int 0, .retAddr 0] [] (q_K o g) else (q_sem d mX11_finding 0 [.ref 0, .int 5] [] (q_K o g)).bind (fun r => q_sem (d + 1) mX11_plots 37 [.ref 0, .int x1, .int x2, .retAddr 0, .retAddr 0, .retAddr 0] (r.1.toList ++ []) r.2)) := by
  refine (q_blk (Y := mX11_plots) (q_dcC dX11_plots_27 (q_dcC dX11_plots_28 (q_dcC dX11_plots_29 q_dcN))) (show _ = some ((if q_cc .eq (y0 - y0 / 2 * 2) 0 = true then 38 else 32), [.ref 0, .int x1, .int x2, .retAddr 0, .retAddr 0, .retAddr 0], []) from rfl)).trans ?_
  by_cases c1 : (y0 - y0 / 2 * 2) = 0
  · rw [if_pos (show q_cc .eq (y0 - y0 / 2 * 2) 0 = true from decide_eq_true c1)]
    refine Eq.trans ?_ (if_pos c1).symm
    refine (q_blk (Y := mX11_plots) (q_dcC dX11_plots_38 (q_dcC dX11_plots_39 (q_dcC dX11_plots_40 (q_dcC dX11_plots_41 q_dcN)))) (show _ = some (43, [.ref 0, .int x1, .int x2, .int 0, .int 0, .retAddr 0], []) from rfl)).trans ?_
    rfl
  · rw [if_neg (show ¬ q_cc .eq (y0 - y0 / 2 * 2) 0 = true from fun z => c1 (of_decide_eq_true z))]
    refine Eq.trans ?_ (if_neg c1).symm
    refine (q_blk (Y := mX11_plots) (q_dcC dX11_plots_32 (q_dcC dX11_plots_33 q_dcN)) (show _ = some (34, [.ref 0, .int x1, .int x2, .retAddr 0, .retAddr 0, .retAddr 0], [.int 5, .ref 0]) from rfl)).trans ?_
    exact K_calV (d := d) (Y := mX11_plots) (Z := mX11_finding) (vs := [.int 5]) (rest := []) (la := [.ref 0, .int 5]) dX11_plots_34 rfl rfl rfl rfl ⟨by decide, rfl⟩ (Nat.le_of_ble_eq_true rfl) rfl (Nat.le_of_ble_eq_true rfl)
theorem B_X11_plots_18 {o : q_H} (d : Nat) (x1 x2 y0 : Int32) (g : Nat → Nat → Int32) : q_sem (d) mX11_plots 18 [.ref 0, .int x1, .int x2, .retAddr 0, .retAddr 0, .retAddr 0] [.int y0] (q_K o g) = some (some (.int y0), q_K o g) := by
  exact k_iret (Y := mX11_plots) dX11_plots_18 rfl
theorem B_X11_plots_43 {o : q_H} (d : Nat) (x1 x2 x3 x4 : Int32) (g : Nat → Nat → Int32) : q_sem (d + 1) mX11_plots 43 [.ref 0, .int x1, .int x2, .int x3, .int x4, .retAddr 0] [] (q_K o g) = (q_sem d mX6_size 0 [.ref 69, .int x1] [] (q_K o g)).bind (fun r => q_sem (d + 1) mX11_plots 53 [.ref 0, .int x1, .int x2, .int x3, .int x4, .retAddr 0] (r.1.toList ++ [.int x4]) r.2) := by
  refine (q_blk (Y := mX11_plots) (q_dcC dX11_plots_43 (q_dcC dX11_plots_45 q_dcN)) (show _ = some (46, [.ref 0, .int x1, .int x2, .int x3, .int x4, .retAddr 0], [.ref 0, .int x4]) from rfl)).trans ?_
  refine (k_getr (Y := mX11_plots) dX11_plots_46 rfl rfl ⟨by decide, rfl⟩ (by decide) rfl).trans ?_
  refine (q_blk (Y := mX11_plots) (q_dcC dX11_plots_49 q_dcN) (show _ = some (50, [.ref 0, .int x1, .int x2, .int x3, .int x4, .retAddr 0], [.int x1, .ref 69, .int x4]) from rfl)).trans ?_
  exact K_calV (d := d) (Y := mX11_plots) (Z := mX6_size) (vs := [.int x1]) (rest := [.int x4]) (la := [.ref 69, .int x1]) dX11_plots_50 rfl rfl rfl rfl ⟨by decide, rfl⟩ (Nat.le_of_ble_eq_true rfl) rfl (Nat.le_of_ble_eq_true rfl)
theorem B_X11_plots_37 {o : q_H} (d : Nat) (x1 x2 y0 : Int32) (g : Nat → Nat → Int32) : q_sem (d) mX11_plots 37 [.ref 0, .int x1, .int x2, .retAddr 0, .retAddr 0, .retAddr 0] [.int y0] (q_K o g) = some (some (.int y0), q_K o g) := by
  exact k_iret (Y := mX11_plots) dX11_plots_37 rfl
theorem B_X11_plots_53 {o : q_H} (d : Nat) (x1 x2 x3 x4 y0 y1 : Int32) (g : Nat → Nat → Int32) : q_sem (d + 1) mX11_plots 53 [.ref 0, .int x1, .int x2, .int x3, .int x4, .retAddr 0] [.int y0, .int y1] (q_K o g) = (if y0 ≤ y1 then (q_sem d mX7_size 0 [.ref 6] [] (q_K o g)).bind (fun r => q_sem (d + 1) mX11_plots 142 [.ref 0, .int x1, .int x2, .int x3, .int x4, .retAddr 0] (r.1.toList ++ []) r.2) else (q_sem d mX6_get 0 [.ref 69, .int x1, .int x4] [] (q_K o g)).bind (fun r => q_sem (d + 1) mX11_plots 66 [.ref 0, .int x1, .int x2, .int x3, .int x4, .retAddr 0] (r.1.toList ++ []) r.2)) := by
  refine (q_blk (Y := mX11_plots) (q_dcC dX11_plots_53 q_dcN) (show _ = some ((if q_cc .ge y1 y0 = true then 132 else 56), [.ref 0, .int x1, .int x2, .int x3, .int x4, .retAddr 0], []) from rfl)).trans ?_
  by_cases c1 : y0 ≤ y1
  · rw [if_pos (show q_cc .ge y1 y0 = true from decide_eq_true c1)]
    refine Eq.trans ?_ (if_pos c1).symm
    refine (q_blk (Y := mX11_plots) (q_dcC dX11_plots_132 q_dcN) (show _ = some (133, [.ref 0, .int x1, .int x2, .int x3, .int x4, .retAddr 0], [.ref 0]) from rfl)).trans ?_
    refine (k_getr (Y := mX11_plots) dX11_plots_133 rfl rfl ⟨by decide, rfl⟩ (by decide) rfl).trans ?_
    refine (k_getr (Y := mX11_plots) dX11_plots_136 rfl rfl ⟨by decide, rfl⟩ (by decide) rfl).trans ?_
    exact K_calV (d := d) (Y := mX11_plots) (Z := mX7_size) (vs := []) (rest := []) (la := [.ref 6]) dX11_plots_139 rfl rfl rfl rfl ⟨by decide, rfl⟩ (Nat.le_of_ble_eq_true rfl) rfl (Nat.le_of_ble_eq_true rfl)
  · rw [if_neg (show ¬ q_cc .ge y1 y0 = true from fun z => c1 (of_decide_eq_true z))]
    refine Eq.trans ?_ (if_neg c1).symm
    refine (q_blk (Y := mX11_plots) (q_dcC dX11_plots_56 q_dcN) (show _ = some (57, [.ref 0, .int x1, .int x2, .int x3, .int x4, .retAddr 0], [.ref 0]) from rfl)).trans ?_
    refine (k_getr (Y := mX11_plots) dX11_plots_57 rfl rfl ⟨by decide, rfl⟩ (by decide) rfl).trans ?_
    refine (q_blk (Y := mX11_plots) (q_dcC dX11_plots_60 (q_dcC dX11_plots_61 q_dcN)) (show _ = some (63, [.ref 0, .int x1, .int x2, .int x3, .int x4, .retAddr 0], [.int x4, .int x1, .ref 69]) from rfl)).trans ?_
    exact K_calV (d := d) (Y := mX11_plots) (Z := mX6_get) (vs := [.int x1, .int x4]) (rest := []) (la := [.ref 69, .int x1, .int x4]) dX11_plots_63 rfl rfl rfl rfl ⟨by decide, rfl⟩ (Nat.le_of_ble_eq_true rfl) rfl (Nat.le_of_ble_eq_true rfl)
theorem B_X11_plots_142 {o : q_H} (d : Nat) (x1 x2 x3 x4 y0 : Int32) (g : Nat → Nat → Int32) : q_sem (d + 1) mX11_plots 142 [.ref 0, .int x1, .int x2, .int x3, .int x4, .retAddr 0] [.int y0] (q_K o g) = (if (y0 + x3) ≤ 24 then (q_sem d mX11_addPlots 0 [.ref 0, .int x1, .retAddr 0, .retAddr 0] [] (q_K o g)).bind (fun r => q_sem (d + 1) mX11_plots 160 [.ref 0, .int x1, .int x2, .int x3, .int x4, .retAddr 0] (r.1.toList ++ []) r.2) else (q_sem d mX11_finding 0 [.ref 0, .int 4] [] (q_K o g)).bind (fun r => q_sem (d + 1) mX11_plots 154 [.ref 0, .int x1, .int x2, .int x3, .int x4, .retAddr 0] (r.1.toList ++ []) r.2)) := by
  refine (q_blk (Y := mX11_plots) (q_dcC dX11_plots_142 (q_dcC dX11_plots_143 (q_dcC dX11_plots_144 (q_dcC dX11_plots_146 q_dcN)))) (show _ = some ((if q_cc .le (y0 + x3) 24 = true then 155 else 149), [.ref 0, .int x1, .int x2, .int x3, .int x4, .retAddr 0], []) from rfl)).trans ?_
  by_cases c1 : (y0 + x3) ≤ 24
  · rw [if_pos (show q_cc .le (y0 + x3) 24 = true from decide_eq_true c1)]
    refine Eq.trans ?_ (if_pos c1).symm
    refine (q_blk (Y := mX11_plots) (q_dcC dX11_plots_155 (q_dcC dX11_plots_156 q_dcN)) (show _ = some (157, [.ref 0, .int x1, .int x2, .int x3, .int x4, .retAddr 0], [.int x1, .ref 0]) from rfl)).trans ?_
    exact K_calV (d := d) (Y := mX11_plots) (Z := mX11_addPlots) (vs := [.int x1]) (rest := []) (la := [.ref 0, .int x1, .retAddr 0, .retAddr 0]) dX11_plots_157 rfl rfl rfl rfl ⟨by decide, rfl⟩ (Nat.le_of_ble_eq_true rfl) rfl (Nat.le_of_ble_eq_true rfl)
  · rw [if_neg (show ¬ q_cc .le (y0 + x3) 24 = true from fun z => c1 (of_decide_eq_true z))]
    refine Eq.trans ?_ (if_neg c1).symm
    refine (q_blk (Y := mX11_plots) (q_dcC dX11_plots_149 (q_dcC dX11_plots_150 q_dcN)) (show _ = some (151, [.ref 0, .int x1, .int x2, .int x3, .int x4, .retAddr 0], [.int 4, .ref 0]) from rfl)).trans ?_
    exact K_calV (d := d) (Y := mX11_plots) (Z := mX11_finding) (vs := [.int 4]) (rest := []) (la := [.ref 0, .int 4]) dX11_plots_151 rfl rfl rfl rfl ⟨by decide, rfl⟩ (Nat.le_of_ble_eq_true rfl) rfl (Nat.le_of_ble_eq_true rfl)
theorem B_X11_plots_66 {o : q_H} (d : Nat) (x1 x2 x3 x4 y0 : Int32) (g : Nat → Nat → Int32) : q_sem (d + 1) mX11_plots 66 [.ref 0, .int x1, .int x2, .int x3, .int x4, .retAddr 0] [.int y0] (q_K o g) = (if y0 = (-1) then (if y0 = (-1) then q_sem (d + 1) mX11_plots 43 [.ref 0, .int x1, .int x2, .int (x3 + 0), .int (x4 + 2), .int y0] [] (q_K o g) else (q_sem d mX10_isWatched 0 [.ref 1, .int y0] [] (q_K o g)).bind (fun r => q_sem (d + 1) mX11_plots 116 [.ref 0, .int x1, .int x2, .int x3, .int x4, .int y0] (r.1.toList ++ [.int x3]) r.2)) else (q_sem d mX6_get 0 [.ref 69, .int x1, .int (x4 + 1)] [] (q_K o g)).bind (fun r => q_sem (d + 1) mX11_plots 88 [.ref 0, .int x1, .int x2, .int x3, .int x4, .int y0] (r.1.toList ++ [.int y0]) r.2)) := by
  refine (q_blk (Y := mX11_plots) (q_dcC dX11_plots_66 (q_dcC dX11_plots_68 (q_dcC dX11_plots_70 (q_dcC dX11_plots_71 q_dcN)))) (show _ = some ((if q_cc .eq y0 (-1) = true then 100 else 74), [.ref 0, .int x1, .int x2, .int x3, .int x4, .int y0], []) from rfl)).trans ?_
  by_cases c1 : y0 = (-1)
  · rw [if_pos (show q_cc .eq y0 (-1) = true from decide_eq_true c1)]
    refine Eq.trans ?_ (if_pos c1).symm
    refine (q_blk (Y := mX11_plots) (q_dcC dX11_plots_100 (q_dcC dX11_plots_101 (q_dcC dX11_plots_103 (q_dcC dX11_plots_104 q_dcN)))) (show _ = some ((if q_cc .eq y0 (-1) = true then 123 else 107), [.ref 0, .int x1, .int x2, .int x3, .int x4, .int y0], [.int x3]) from rfl)).trans ?_
    by_cases c2 : y0 = (-1)
    · rw [if_pos (show q_cc .eq y0 (-1) = true from decide_eq_true c2)]
      refine Eq.trans ?_ (if_pos c2).symm
      refine (q_blk (Y := mX11_plots) (q_dcC dX11_plots_123 (q_dcC dX11_plots_124 (q_dcC dX11_plots_125 (q_dcC dX11_plots_126 (q_dcC dX11_plots_129 q_dcN))))) (show _ = some (43, [.ref 0, .int x1, .int x2, .int (x3 + 0), .int (x4 + 2), .int y0], []) from rfl)).trans ?_
      rfl
    · rw [if_neg (show ¬ q_cc .eq y0 (-1) = true from fun z => c2 (of_decide_eq_true z))]
      refine Eq.trans ?_ (if_neg c2).symm
      refine (q_blk (Y := mX11_plots) (q_dcC dX11_plots_107 q_dcN) (show _ = some (108, [.ref 0, .int x1, .int x2, .int x3, .int x4, .int y0], [.ref 0, .int x3]) from rfl)).trans ?_
      refine (k_getr (Y := mX11_plots) dX11_plots_108 rfl rfl ⟨by decide, rfl⟩ (by decide) rfl).trans ?_
      refine (q_blk (Y := mX11_plots) (q_dcC dX11_plots_111 q_dcN) (show _ = some (113, [.ref 0, .int x1, .int x2, .int x3, .int x4, .int y0], [.int y0, .ref 1, .int x3]) from rfl)).trans ?_
      exact K_calV (d := d) (Y := mX11_plots) (Z := mX10_isWatched) (vs := [.int y0]) (rest := [.int x3]) (la := [.ref 1, .int y0]) dX11_plots_113 rfl rfl rfl rfl ⟨by decide, rfl⟩ (Nat.le_of_ble_eq_true rfl) rfl (Nat.le_of_ble_eq_true rfl)
  · rw [if_neg (show ¬ q_cc .eq y0 (-1) = true from fun z => c1 (of_decide_eq_true z))]
    refine Eq.trans ?_ (if_neg c1).symm
    refine (q_blk (Y := mX11_plots) (q_dcC dX11_plots_74 (q_dcC dX11_plots_76 q_dcN)) (show _ = some (77, [.ref 0, .int x1, .int x2, .int x3, .int x4, .int y0], [.ref 0, .int y0]) from rfl)).trans ?_
    refine (k_getr (Y := mX11_plots) dX11_plots_77 rfl rfl ⟨by decide, rfl⟩ (by decide) rfl).trans ?_
    refine (q_blk (Y := mX11_plots) (q_dcC dX11_plots_80 (q_dcC dX11_plots_81 (q_dcC dX11_plots_83 (q_dcC dX11_plots_84 q_dcN)))) (show _ = some (85, [.ref 0, .int x1, .int x2, .int x3, .int x4, .int y0], [.int (x4 + 1), .int x1, .ref 69, .int y0]) from rfl)).trans ?_
    exact K_calV (d := d) (Y := mX11_plots) (Z := mX6_get) (vs := [.int x1, .int (x4 + 1)]) (rest := [.int y0]) (la := [.ref 69, .int x1, .int (x4 + 1)]) dX11_plots_85 rfl rfl rfl rfl ⟨by decide, rfl⟩ (Nat.le_of_ble_eq_true rfl) rfl (Nat.le_of_ble_eq_true rfl)
theorem B_X11_plots_160 {o : q_H} (d : Nat) (x1 x2 x3 x4 : Int32) (g : Nat → Nat → Int32) : q_sem (d) mX11_plots 160 [.ref 0, .int x1, .int x2, .int x3, .int x4, .retAddr 0] [] (q_K o g) = some (some (.int x3), q_K o g) := by
  refine (q_blk (Y := mX11_plots) (q_dcC dX11_plots_160 q_dcN) (show _ = some (161, [.ref 0, .int x1, .int x2, .int x3, .int x4, .retAddr 0], [.int x3]) from rfl)).trans ?_
  exact k_iret (Y := mX11_plots) dX11_plots_161 rfl
theorem B_X11_plots_154 {o : q_H} (d : Nat) (x1 x2 x3 x4 y0 : Int32) (g : Nat → Nat → Int32) : q_sem (d) mX11_plots 154 [.ref 0, .int x1, .int x2, .int x3, .int x4, .retAddr 0] [.int y0] (q_K o g) = some (some (.int y0), q_K o g) := by
  exact k_iret (Y := mX11_plots) dX11_plots_154 rfl
theorem B_X11_plots_43a {o : q_H} (d : Nat) (x1 x2 x3 x4 x5 : Int32) (g : Nat → Nat → Int32) : q_sem (d + 1) mX11_plots 43 [.ref 0, .int x1, .int x2, .int x3, .int x4, .int x5] [] (q_K o g) = (q_sem d mX6_size 0 [.ref 69, .int x1] [] (q_K o g)).bind (fun r => q_sem (d + 1) mX11_plots 53 [.ref 0, .int x1, .int x2, .int x3, .int x4, .int x5] (r.1.toList ++ [.int x4]) r.2) := by
  refine (q_blk (Y := mX11_plots) (q_dcC dX11_plots_43 (q_dcC dX11_plots_45 q_dcN)) (show _ = some (46, [.ref 0, .int x1, .int x2, .int x3, .int x4, .int x5], [.ref 0, .int x4]) from rfl)).trans ?_
  refine (k_getr (Y := mX11_plots) dX11_plots_46 rfl rfl ⟨by decide, rfl⟩ (by decide) rfl).trans ?_
  refine (q_blk (Y := mX11_plots) (q_dcC dX11_plots_49 q_dcN) (show _ = some (50, [.ref 0, .int x1, .int x2, .int x3, .int x4, .int x5], [.int x1, .ref 69, .int x4]) from rfl)).trans ?_
  exact K_calV (d := d) (Y := mX11_plots) (Z := mX6_size) (vs := [.int x1]) (rest := [.int x4]) (la := [.ref 69, .int x1]) dX11_plots_50 rfl rfl rfl rfl ⟨by decide, rfl⟩ (Nat.le_of_ble_eq_true rfl) rfl (Nat.le_of_ble_eq_true rfl)
theorem B_X11_plots_116 {o : q_H} (d : Nat) (x1 x2 x3 x4 x5 y0 y1 : Int32) (g : Nat → Nat → Int32) : q_sem (d) mX11_plots 116 [.ref 0, .int x1, .int x2, .int x3, .int x4, .int x5] [.int y0, .int y1] (q_K o g) = (if y0 = 0 then q_sem (d) mX11_plots 43 [.ref 0, .int x1, .int x2, .int (y1 + 0), .int (x4 + 2), .int x5] [] (q_K o g) else q_sem (d) mX11_plots 43 [.ref 0, .int x1, .int x2, .int (y1 + 1), .int (x4 + 2), .int x5] [] (q_K o g)) := by
  refine (q_blk (Y := mX11_plots) (q_dcC dX11_plots_116 q_dcN) (show _ = some ((if q_cc .eq y0 0 = true then 123 else 119), [.ref 0, .int x1, .int x2, .int x3, .int x4, .int x5], [.int y1]) from rfl)).trans ?_
  by_cases c1 : y0 = 0
  · rw [if_pos (show q_cc .eq y0 0 = true from decide_eq_true c1)]
    refine Eq.trans ?_ (if_pos c1).symm
    refine (q_blk (Y := mX11_plots) (q_dcC dX11_plots_123 (q_dcC dX11_plots_124 (q_dcC dX11_plots_125 (q_dcC dX11_plots_126 (q_dcC dX11_plots_129 q_dcN))))) (show _ = some (43, [.ref 0, .int x1, .int x2, .int (y1 + 0), .int (x4 + 2), .int x5], []) from rfl)).trans ?_
    rfl
  · rw [if_neg (show ¬ q_cc .eq y0 0 = true from fun z => c1 (of_decide_eq_true z))]
    refine Eq.trans ?_ (if_neg c1).symm
    refine (q_blk (Y := mX11_plots) (q_dcC dX11_plots_119 (q_dcC dX11_plots_120 q_dcN)) (show _ = some (124, [.ref 0, .int x1, .int x2, .int x3, .int x4, .int x5], [.int 1, .int y1]) from rfl)).trans ?_
    refine (q_blk (Y := mX11_plots) (q_dcC dX11_plots_124 (q_dcC dX11_plots_125 (q_dcC dX11_plots_126 (q_dcC dX11_plots_129 q_dcN)))) (show _ = some (43, [.ref 0, .int x1, .int x2, .int (y1 + 1), .int (x4 + 2), .int x5], []) from rfl)).trans ?_
    rfl
theorem B_X11_plots_88 {o : q_H} (d : Nat) (x1 x2 x3 x4 x5 y0 y1 : Int32) (g : Nat → Nat → Int32) : q_sem (d + 1) mX11_plots 88 [.ref 0, .int x1, .int x2, .int x3, .int x4, .int x5] [.int y0, .int y1] (q_K o g) = (q_sem d mX11_isTold 0 [.int y1, .int y0] [] (q_K o g)).bind (fun r => q_sem (d + 1) mX11_plots 91 [.ref 0, .int x1, .int x2, .int x3, .int x4, .int x5] (r.1.toList ++ []) r.2) := by
  exact K_calS (d := d) (Y := mX11_plots) (Z := mX11_isTold) (vs := [.int y1, .int y0]) (rest := []) (la := [.int y1, .int y0]) dX11_plots_88 rfl rfl rfl rfl (Nat.le_of_ble_eq_true rfl) rfl (Nat.le_of_ble_eq_true rfl)
theorem B_X11_plots_53a {o : q_H} (d : Nat) (x1 x2 x3 x4 x5 y0 y1 : Int32) (g : Nat → Nat → Int32) : q_sem (d + 1) mX11_plots 53 [.ref 0, .int x1, .int x2, .int x3, .int x4, .int x5] [.int y0, .int y1] (q_K o g) = (if y0 ≤ y1 then (q_sem d mX7_size 0 [.ref 6] [] (q_K o g)).bind (fun r => q_sem (d + 1) mX11_plots 142 [.ref 0, .int x1, .int x2, .int x3, .int x4, .int x5] (r.1.toList ++ []) r.2) else (q_sem d mX6_get 0 [.ref 69, .int x1, .int x4] [] (q_K o g)).bind (fun r => q_sem (d + 1) mX11_plots 66 [.ref 0, .int x1, .int x2, .int x3, .int x4, .int x5] (r.1.toList ++ []) r.2)) := by
  refine (q_blk (Y := mX11_plots) (q_dcC dX11_plots_53 q_dcN) (show _ = some ((if q_cc .ge y1 y0 = true then 132 else 56), [.ref 0, .int x1, .int x2, .int x3, .int x4, .int x5], []) from rfl)).trans ?_
  by_cases c1 : y0 ≤ y1
  · rw [if_pos (show q_cc .ge y1 y0 = true from decide_eq_true c1)]
    refine Eq.trans ?_ (if_pos c1).symm
    refine (q_blk (Y := mX11_plots) (q_dcC dX11_plots_132 q_dcN) (show _ = some (133, [.ref 0, .int x1, .int x2, .int x3, .int x4, .int x5], [.ref 0]) from rfl)).trans ?_
    refine (k_getr (Y := mX11_plots) dX11_plots_133 rfl rfl ⟨by decide, rfl⟩ (by decide) rfl).trans ?_
    refine (k_getr (Y := mX11_plots) dX11_plots_136 rfl rfl ⟨by decide, rfl⟩ (by decide) rfl).trans ?_
    exact K_calV (d := d) (Y := mX11_plots) (Z := mX7_size) (vs := []) (rest := []) (la := [.ref 6]) dX11_plots_139 rfl rfl rfl rfl ⟨by decide, rfl⟩ (Nat.le_of_ble_eq_true rfl) rfl (Nat.le_of_ble_eq_true rfl)
  · rw [if_neg (show ¬ q_cc .ge y1 y0 = true from fun z => c1 (of_decide_eq_true z))]
    refine Eq.trans ?_ (if_neg c1).symm
    refine (q_blk (Y := mX11_plots) (q_dcC dX11_plots_56 q_dcN) (show _ = some (57, [.ref 0, .int x1, .int x2, .int x3, .int x4, .int x5], [.ref 0]) from rfl)).trans ?_
    refine (k_getr (Y := mX11_plots) dX11_plots_57 rfl rfl ⟨by decide, rfl⟩ (by decide) rfl).trans ?_
    refine (q_blk (Y := mX11_plots) (q_dcC dX11_plots_60 (q_dcC dX11_plots_61 q_dcN)) (show _ = some (63, [.ref 0, .int x1, .int x2, .int x3, .int x4, .int x5], [.int x4, .int x1, .ref 69]) from rfl)).trans ?_
    exact K_calV (d := d) (Y := mX11_plots) (Z := mX6_get) (vs := [.int x1, .int x4]) (rest := []) (la := [.ref 69, .int x1, .int x4]) dX11_plots_63 rfl rfl rfl rfl ⟨by decide, rfl⟩ (Nat.le_of_ble_eq_true rfl) rfl (Nat.le_of_ble_eq_true rfl)
theorem B_X11_plots_91 {o : q_H} (d : Nat) (x1 x2 x3 x4 x5 y0 : Int32) (g : Nat → Nat → Int32) : q_sem (d + 1) mX11_plots 91 [.ref 0, .int x1, .int x2, .int x3, .int x4, .int x5] [.int y0] (q_K o g) = (if y0 = 0 then (q_sem d mX11_finding 0 [.ref 0, .int 1] [] (q_K o g)).bind (fun r => q_sem (d + 1) mX11_plots 99 [.ref 0, .int x1, .int x2, .int x3, .int x4, .int x5] (r.1.toList ++ []) r.2) else (if x5 = (-1) then q_sem (d + 1) mX11_plots 43 [.ref 0, .int x1, .int x2, .int (x3 + 0), .int (x4 + 2), .int x5] [] (q_K o g) else (q_sem d mX10_isWatched 0 [.ref 1, .int x5] [] (q_K o g)).bind (fun r => q_sem (d + 1) mX11_plots 116 [.ref 0, .int x1, .int x2, .int x3, .int x4, .int x5] (r.1.toList ++ [.int x3]) r.2))) := by
  refine (q_blk (Y := mX11_plots) (q_dcC dX11_plots_91 q_dcN) (show _ = some ((if q_cc .ne y0 0 = true then 100 else 94), [.ref 0, .int x1, .int x2, .int x3, .int x4, .int x5], []) from rfl)).trans ?_
  by_cases c1 : y0 = 0
  · rw [if_neg (show ¬ q_cc .ne y0 0 = true from fun z => (of_decide_eq_true z : ¬ y0 = 0) c1)]
    refine Eq.trans ?_ (if_pos c1).symm
    refine (q_blk (Y := mX11_plots) (q_dcC dX11_plots_94 (q_dcC dX11_plots_95 q_dcN)) (show _ = some (96, [.ref 0, .int x1, .int x2, .int x3, .int x4, .int x5], [.int 1, .ref 0]) from rfl)).trans ?_
    exact K_calV (d := d) (Y := mX11_plots) (Z := mX11_finding) (vs := [.int 1]) (rest := []) (la := [.ref 0, .int 1]) dX11_plots_96 rfl rfl rfl rfl ⟨by decide, rfl⟩ (Nat.le_of_ble_eq_true rfl) rfl (Nat.le_of_ble_eq_true rfl)
  · rw [if_pos (show q_cc .ne y0 0 = true from decide_eq_true c1)]
    refine Eq.trans ?_ (if_neg c1).symm
    refine (q_blk (Y := mX11_plots) (q_dcC dX11_plots_100 (q_dcC dX11_plots_101 (q_dcC dX11_plots_103 (q_dcC dX11_plots_104 q_dcN)))) (show _ = some ((if q_cc .eq x5 (-1) = true then 123 else 107), [.ref 0, .int x1, .int x2, .int x3, .int x4, .int x5], [.int x3]) from rfl)).trans ?_
    by_cases c2 : x5 = (-1)
    · rw [if_pos (show q_cc .eq x5 (-1) = true from decide_eq_true c2)]
      refine Eq.trans ?_ (if_pos c2).symm
      refine (q_blk (Y := mX11_plots) (q_dcC dX11_plots_123 (q_dcC dX11_plots_124 (q_dcC dX11_plots_125 (q_dcC dX11_plots_126 (q_dcC dX11_plots_129 q_dcN))))) (show _ = some (43, [.ref 0, .int x1, .int x2, .int (x3 + 0), .int (x4 + 2), .int x5], []) from rfl)).trans ?_
      rfl
    · rw [if_neg (show ¬ q_cc .eq x5 (-1) = true from fun z => c2 (of_decide_eq_true z))]
      refine Eq.trans ?_ (if_neg c2).symm
      refine (q_blk (Y := mX11_plots) (q_dcC dX11_plots_107 q_dcN) (show _ = some (108, [.ref 0, .int x1, .int x2, .int x3, .int x4, .int x5], [.ref 0, .int x3]) from rfl)).trans ?_
      refine (k_getr (Y := mX11_plots) dX11_plots_108 rfl rfl ⟨by decide, rfl⟩ (by decide) rfl).trans ?_
      refine (q_blk (Y := mX11_plots) (q_dcC dX11_plots_111 q_dcN) (show _ = some (113, [.ref 0, .int x1, .int x2, .int x3, .int x4, .int x5], [.int x5, .ref 1, .int x3]) from rfl)).trans ?_
      exact K_calV (d := d) (Y := mX11_plots) (Z := mX10_isWatched) (vs := [.int x5]) (rest := [.int x3]) (la := [.ref 1, .int x5]) dX11_plots_113 rfl rfl rfl rfl ⟨by decide, rfl⟩ (Nat.le_of_ble_eq_true rfl) rfl (Nat.le_of_ble_eq_true rfl)
theorem B_X11_plots_142a {o : q_H} (d : Nat) (x1 x2 x3 x4 x5 y0 : Int32) (g : Nat → Nat → Int32) : q_sem (d + 1) mX11_plots 142 [.ref 0, .int x1, .int x2, .int x3, .int x4, .int x5] [.int y0] (q_K o g) = (if (y0 + x3) ≤ 24 then (q_sem d mX11_addPlots 0 [.ref 0, .int x1, .retAddr 0, .retAddr 0] [] (q_K o g)).bind (fun r => q_sem (d + 1) mX11_plots 160 [.ref 0, .int x1, .int x2, .int x3, .int x4, .int x5] (r.1.toList ++ []) r.2) else (q_sem d mX11_finding 0 [.ref 0, .int 4] [] (q_K o g)).bind (fun r => q_sem (d + 1) mX11_plots 154 [.ref 0, .int x1, .int x2, .int x3, .int x4, .int x5] (r.1.toList ++ []) r.2)) := by
  refine (q_blk (Y := mX11_plots) (q_dcC dX11_plots_142 (q_dcC dX11_plots_143 (q_dcC dX11_plots_144 (q_dcC dX11_plots_146 q_dcN)))) (show _ = some ((if q_cc .le (y0 + x3) 24 = true then 155 else 149), [.ref 0, .int x1, .int x2, .int x3, .int x4, .int x5], []) from rfl)).trans ?_
  by_cases c1 : (y0 + x3) ≤ 24
  · rw [if_pos (show q_cc .le (y0 + x3) 24 = true from decide_eq_true c1)]
    refine Eq.trans ?_ (if_pos c1).symm
    refine (q_blk (Y := mX11_plots) (q_dcC dX11_plots_155 (q_dcC dX11_plots_156 q_dcN)) (show _ = some (157, [.ref 0, .int x1, .int x2, .int x3, .int x4, .int x5], [.int x1, .ref 0]) from rfl)).trans ?_
    exact K_calV (d := d) (Y := mX11_plots) (Z := mX11_addPlots) (vs := [.int x1]) (rest := []) (la := [.ref 0, .int x1, .retAddr 0, .retAddr 0]) dX11_plots_157 rfl rfl rfl rfl ⟨by decide, rfl⟩ (Nat.le_of_ble_eq_true rfl) rfl (Nat.le_of_ble_eq_true rfl)
  · rw [if_neg (show ¬ q_cc .le (y0 + x3) 24 = true from fun z => c1 (of_decide_eq_true z))]
    refine Eq.trans ?_ (if_neg c1).symm
    refine (q_blk (Y := mX11_plots) (q_dcC dX11_plots_149 (q_dcC dX11_plots_150 q_dcN)) (show _ = some (151, [.ref 0, .int x1, .int x2, .int x3, .int x4, .int x5], [.int 4, .ref 0]) from rfl)).trans ?_
    exact K_calV (d := d) (Y := mX11_plots) (Z := mX11_finding) (vs := [.int 4]) (rest := []) (la := [.ref 0, .int 4]) dX11_plots_151 rfl rfl rfl rfl ⟨by decide, rfl⟩ (Nat.le_of_ble_eq_true rfl) rfl (Nat.le_of_ble_eq_true rfl)
theorem B_X11_plots_66a {o : q_H} (d : Nat) (x1 x2 x3 x4 x5 y0 : Int32) (g : Nat → Nat → Int32) : q_sem (d + 1) mX11_plots 66 [.ref 0, .int x1, .int x2, .int x3, .int x4, .int x5] [.int y0] (q_K o g) = (if y0 = (-1) then (if y0 = (-1) then q_sem (d + 1) mX11_plots 43 [.ref 0, .int x1, .int x2, .int (x3 + 0), .int (x4 + 2), .int y0] [] (q_K o g) else (q_sem d mX10_isWatched 0 [.ref 1, .int y0] [] (q_K o g)).bind (fun r => q_sem (d + 1) mX11_plots 116 [.ref 0, .int x1, .int x2, .int x3, .int x4, .int y0] (r.1.toList ++ [.int x3]) r.2)) else (q_sem d mX6_get 0 [.ref 69, .int x1, .int (x4 + 1)] [] (q_K o g)).bind (fun r => q_sem (d + 1) mX11_plots 88 [.ref 0, .int x1, .int x2, .int x3, .int x4, .int y0] (r.1.toList ++ [.int y0]) r.2)) := by
  refine (q_blk (Y := mX11_plots) (q_dcC dX11_plots_66 (q_dcC dX11_plots_68 (q_dcC dX11_plots_70 (q_dcC dX11_plots_71 q_dcN)))) (show _ = some ((if q_cc .eq y0 (-1) = true then 100 else 74), [.ref 0, .int x1, .int x2, .int x3, .int x4, .int y0], []) from rfl)).trans ?_
  by_cases c1 : y0 = (-1)
  · rw [if_pos (show q_cc .eq y0 (-1) = true from decide_eq_true c1)]
    refine Eq.trans ?_ (if_pos c1).symm
    refine (q_blk (Y := mX11_plots) (q_dcC dX11_plots_100 (q_dcC dX11_plots_101 (q_dcC dX11_plots_103 (q_dcC dX11_plots_104 q_dcN)))) (show _ = some ((if q_cc .eq y0 (-1) = true then 123 else 107), [.ref 0, .int x1, .int x2, .int x3, .int x4, .int y0], [.int x3]) from rfl)).trans ?_
    by_cases c2 : y0 = (-1)
    · rw [if_pos (show q_cc .eq y0 (-1) = true from decide_eq_true c2)]
      refine Eq.trans ?_ (if_pos c2).symm
      refine (q_blk (Y := mX11_plots) (q_dcC dX11_plots_123 (q_dcC dX11_plots_124 (q_dcC dX11_plots_125 (q_dcC dX11_plots_126 (q_dcC dX11_plots_129 q_dcN))))) (show _ = some (43, [.ref 0, .int x1, .int x2, .int (x3 + 0), .int (x4 + 2), .int y0], []) from rfl)).trans ?_
      rfl
    · rw [if_neg (show ¬ q_cc .eq y0 (-1) = true from fun z => c2 (of_decide_eq_true z))]
      refine Eq.trans ?_ (if_neg c2).symm
      refine (q_blk (Y := mX11_plots) (q_dcC dX11_plots_107 q_dcN) (show _ = some (108, [.ref 0, .int x1, .int x2, .int x3, .int x4, .int y0], [.ref 0, .int x3]) from rfl)).trans ?_
      refine (k_getr (Y := mX11_plots) dX11_plots_108 rfl rfl ⟨by decide, rfl⟩ (by decide) rfl).trans ?_
      refine (q_blk (Y := mX11_plots) (q_dcC dX11_plots_111 q_dcN) (show _ = some (113, [.ref 0, .int x1, .int x2, .int x3, .int x4, .int y0], [.int y0, .ref 1, .int x3]) from rfl)).trans ?_
      exact K_calV (d := d) (Y := mX11_plots) (Z := mX10_isWatched) (vs := [.int y0]) (rest := [.int x3]) (la := [.ref 1, .int y0]) dX11_plots_113 rfl rfl rfl rfl ⟨by decide, rfl⟩ (Nat.le_of_ble_eq_true rfl) rfl (Nat.le_of_ble_eq_true rfl)
  · rw [if_neg (show ¬ q_cc .eq y0 (-1) = true from fun z => c1 (of_decide_eq_true z))]
    refine Eq.trans ?_ (if_neg c1).symm
    refine (q_blk (Y := mX11_plots) (q_dcC dX11_plots_74 (q_dcC dX11_plots_76 q_dcN)) (show _ = some (77, [.ref 0, .int x1, .int x2, .int x3, .int x4, .int y0], [.ref 0, .int y0]) from rfl)).trans ?_
    refine (k_getr (Y := mX11_plots) dX11_plots_77 rfl rfl ⟨by decide, rfl⟩ (by decide) rfl).trans ?_
    refine (q_blk (Y := mX11_plots) (q_dcC dX11_plots_80 (q_dcC dX11_plots_81 (q_dcC dX11_plots_83 (q_dcC dX11_plots_84 q_dcN)))) (show _ = some (85, [.ref 0, .int x1, .int x2, .int x3, .int x4, .int y0], [.int (x4 + 1), .int x1, .ref 69, .int y0]) from rfl)).trans ?_
    exact K_calV (d := d) (Y := mX11_plots) (Z := mX6_get) (vs := [.int x1, .int (x4 + 1)]) (rest := [.int y0]) (la := [.ref 69, .int x1, .int (x4 + 1)]) dX11_plots_85 rfl rfl rfl rfl ⟨by decide, rfl⟩ (Nat.le_of_ble_eq_true rfl) rfl (Nat.le_of_ble_eq_true rfl)
theorem B_X11_plots_99 {o : q_H} (d : Nat) (x1 x2 x3 x4 x5 y0 : Int32) (g : Nat → Nat → Int32) : q_sem (d) mX11_plots 99 [.ref 0, .int x1, .int x2, .int x3, .int x4, .int x5] [.int y0] (q_K o g) = some (some (.int y0), q_K o g) := by
  exact k_iret (Y := mX11_plots) dX11_plots_99 rfl
theorem B_X11_plots_160a {o : q_H} (d : Nat) (x1 x2 x3 x4 x5 : Int32) (g : Nat → Nat → Int32) : q_sem (d) mX11_plots 160 [.ref 0, .int x1, .int x2, .int x3, .int x4, .int x5] [] (q_K o g) = some (some (.int x3), q_K o g) := by
  refine (q_blk (Y := mX11_plots) (q_dcC dX11_plots_160 q_dcN) (show _ = some (161, [.ref 0, .int x1, .int x2, .int x3, .int x4, .int x5], [.int x3]) from rfl)).trans ?_
  exact k_iret (Y := mX11_plots) dX11_plots_161 rfl
theorem B_X11_plots_154a {o : q_H} (d : Nat) (x1 x2 x3 x4 x5 y0 : Int32) (g : Nat → Nat → Int32) : q_sem (d) mX11_plots 154 [.ref 0, .int x1, .int x2, .int x3, .int x4, .int x5] [.int y0] (q_K o g) = some (some (.int y0), q_K o g) := by
  exact k_iret (Y := mX11_plots) dX11_plots_154 rfl
theorem B_X11_addPlots_0 {o : q_H} (d : Nat) (x1 : Int32) (g : Nat → Nat → Int32) : q_sem (d) mX11_addPlots 0 [.ref 0, .int x1, .retAddr 0, .retAddr 0] [] (q_K o g) = q_sem (d) mX11_addPlots 2 [.ref 0, .int x1, .int 0, .retAddr 0] [] (q_K o g) := by
  refine (q_blk (Y := mX11_addPlots) (q_dcC dX11_addPlots_0 (q_dcC dX11_addPlots_1 q_dcN)) (show _ = some (2, [.ref 0, .int x1, .int 0, .retAddr 0], []) from rfl)).trans ?_
  rfl
theorem B_X11_addPlots_2 {o : q_H} (d : Nat) (x1 x2 : Int32) (g : Nat → Nat → Int32) : q_sem (d + 1) mX11_addPlots 2 [.ref 0, .int x1, .int x2, .retAddr 0] [] (q_K o g) = (q_sem d mX6_size 0 [.ref 69, .int x1] [] (q_K o g)).bind (fun r => q_sem (d + 1) mX11_addPlots 11 [.ref 0, .int x1, .int x2, .retAddr 0] (r.1.toList ++ [.int x2]) r.2) := by
  refine (q_blk (Y := mX11_addPlots) (q_dcC dX11_addPlots_2 (q_dcC dX11_addPlots_3 q_dcN)) (show _ = some (4, [.ref 0, .int x1, .int x2, .retAddr 0], [.ref 0, .int x2]) from rfl)).trans ?_
  refine (k_getr (Y := mX11_addPlots) dX11_addPlots_4 rfl rfl ⟨by decide, rfl⟩ (by decide) rfl).trans ?_
  refine (q_blk (Y := mX11_addPlots) (q_dcC dX11_addPlots_7 q_dcN) (show _ = some (8, [.ref 0, .int x1, .int x2, .retAddr 0], [.int x1, .ref 69, .int x2]) from rfl)).trans ?_
  exact K_calV (d := d) (Y := mX11_addPlots) (Z := mX6_size) (vs := [.int x1]) (rest := [.int x2]) (la := [.ref 69, .int x1]) dX11_addPlots_8 rfl rfl rfl rfl ⟨by decide, rfl⟩ (Nat.le_of_ble_eq_true rfl) rfl (Nat.le_of_ble_eq_true rfl)
theorem B_X11_addPlots_11 {o : q_H} (d : Nat) (x1 x2 y0 y1 : Int32) (g : Nat → Nat → Int32) : q_sem (d + 1) mX11_addPlots 11 [.ref 0, .int x1, .int x2, .retAddr 0] [.int y0, .int y1] (q_K o g) = (if y0 ≤ y1 then some (none, q_K o g) else (q_sem d mX6_get 0 [.ref 69, .int x1, .int x2] [] (q_K o g)).bind (fun r => q_sem (d + 1) mX11_addPlots 23 [.ref 0, .int x1, .int x2, .retAddr 0] (r.1.toList ++ []) r.2)) := by
  refine (q_blk (Y := mX11_addPlots) (q_dcC dX11_addPlots_11 q_dcN) (show _ = some ((if q_cc .ge y1 y0 = true then 66 else 14), [.ref 0, .int x1, .int x2, .retAddr 0], []) from rfl)).trans ?_
  by_cases c1 : y0 ≤ y1
  · rw [if_pos (show q_cc .ge y1 y0 = true from decide_eq_true c1)]
    refine Eq.trans ?_ (if_pos c1).symm
    exact k_vret (Y := mX11_addPlots) dX11_addPlots_66 rfl
  · rw [if_neg (show ¬ q_cc .ge y1 y0 = true from fun z => c1 (of_decide_eq_true z))]
    refine Eq.trans ?_ (if_neg c1).symm
    refine (q_blk (Y := mX11_addPlots) (q_dcC dX11_addPlots_14 q_dcN) (show _ = some (15, [.ref 0, .int x1, .int x2, .retAddr 0], [.ref 0]) from rfl)).trans ?_
    refine (k_getr (Y := mX11_addPlots) dX11_addPlots_15 rfl rfl ⟨by decide, rfl⟩ (by decide) rfl).trans ?_
    refine (q_blk (Y := mX11_addPlots) (q_dcC dX11_addPlots_18 (q_dcC dX11_addPlots_19 q_dcN)) (show _ = some (20, [.ref 0, .int x1, .int x2, .retAddr 0], [.int x2, .int x1, .ref 69]) from rfl)).trans ?_
    exact K_calV (d := d) (Y := mX11_addPlots) (Z := mX6_get) (vs := [.int x1, .int x2]) (rest := []) (la := [.ref 69, .int x1, .int x2]) dX11_addPlots_20 rfl rfl rfl rfl ⟨by decide, rfl⟩ (Nat.le_of_ble_eq_true rfl) rfl (Nat.le_of_ble_eq_true rfl)
theorem B_X11_addPlots_23 {o : q_H} (d : Nat) (x1 x2 y0 : Int32) (g : Nat → Nat → Int32) : q_sem (d + 1) mX11_addPlots 23 [.ref 0, .int x1, .int x2, .retAddr 0] [.int y0] (q_K o g) = (if y0 = (-1) then q_sem (d + 1) mX11_addPlots 2 [.ref 0, .int x1, .int (x2 + 2), .int y0] [] (q_K o g) else (q_sem d mX10_isWatched 0 [.ref 1, .int y0] [] (q_K o g)).bind (fun r => q_sem (d + 1) mX11_addPlots 37 [.ref 0, .int x1, .int x2, .int y0] (r.1.toList ++ []) r.2)) := by
  refine (q_blk (Y := mX11_addPlots) (q_dcC dX11_addPlots_23 (q_dcC dX11_addPlots_24 (q_dcC dX11_addPlots_25 (q_dcC dX11_addPlots_26 q_dcN)))) (show _ = some ((if q_cc .eq y0 (-1) = true then 60 else 29), [.ref 0, .int x1, .int x2, .int y0], []) from rfl)).trans ?_
  by_cases c1 : y0 = (-1)
  · rw [if_pos (show q_cc .eq y0 (-1) = true from decide_eq_true c1)]
    refine Eq.trans ?_ (if_pos c1).symm
    refine (q_blk (Y := mX11_addPlots) (q_dcC dX11_addPlots_60 (q_dcC dX11_addPlots_63 q_dcN)) (show _ = some (2, [.ref 0, .int x1, .int (x2 + 2), .int y0], []) from rfl)).trans ?_
    rfl
  · rw [if_neg (show ¬ q_cc .eq y0 (-1) = true from fun z => c1 (of_decide_eq_true z))]
    refine Eq.trans ?_ (if_neg c1).symm
    refine (q_blk (Y := mX11_addPlots) (q_dcC dX11_addPlots_29 q_dcN) (show _ = some (30, [.ref 0, .int x1, .int x2, .int y0], [.ref 0]) from rfl)).trans ?_
    refine (k_getr (Y := mX11_addPlots) dX11_addPlots_30 rfl rfl ⟨by decide, rfl⟩ (by decide) rfl).trans ?_
    refine (q_blk (Y := mX11_addPlots) (q_dcC dX11_addPlots_33 q_dcN) (show _ = some (34, [.ref 0, .int x1, .int x2, .int y0], [.int y0, .ref 1]) from rfl)).trans ?_
    exact K_calV (d := d) (Y := mX11_addPlots) (Z := mX10_isWatched) (vs := [.int y0]) (rest := []) (la := [.ref 1, .int y0]) dX11_addPlots_34 rfl rfl rfl rfl ⟨by decide, rfl⟩ (Nat.le_of_ble_eq_true rfl) rfl (Nat.le_of_ble_eq_true rfl)
theorem B_X11_addPlots_2a {o : q_H} (d : Nat) (x1 x2 x3 : Int32) (g : Nat → Nat → Int32) : q_sem (d + 1) mX11_addPlots 2 [.ref 0, .int x1, .int x2, .int x3] [] (q_K o g) = (q_sem d mX6_size 0 [.ref 69, .int x1] [] (q_K o g)).bind (fun r => q_sem (d + 1) mX11_addPlots 11 [.ref 0, .int x1, .int x2, .int x3] (r.1.toList ++ [.int x2]) r.2) := by
  refine (q_blk (Y := mX11_addPlots) (q_dcC dX11_addPlots_2 (q_dcC dX11_addPlots_3 q_dcN)) (show _ = some (4, [.ref 0, .int x1, .int x2, .int x3], [.ref 0, .int x2]) from rfl)).trans ?_
  refine (k_getr (Y := mX11_addPlots) dX11_addPlots_4 rfl rfl ⟨by decide, rfl⟩ (by decide) rfl).trans ?_
  refine (q_blk (Y := mX11_addPlots) (q_dcC dX11_addPlots_7 q_dcN) (show _ = some (8, [.ref 0, .int x1, .int x2, .int x3], [.int x1, .ref 69, .int x2]) from rfl)).trans ?_
  exact K_calV (d := d) (Y := mX11_addPlots) (Z := mX6_size) (vs := [.int x1]) (rest := [.int x2]) (la := [.ref 69, .int x1]) dX11_addPlots_8 rfl rfl rfl rfl ⟨by decide, rfl⟩ (Nat.le_of_ble_eq_true rfl) rfl (Nat.le_of_ble_eq_true rfl)
theorem B_X11_addPlots_37 {o : q_H} (d : Nat) (x1 x2 x3 y0 : Int32) (g : Nat → Nat → Int32) : q_sem (d + 1) mX11_addPlots 37 [.ref 0, .int x1, .int x2, .int x3] [.int y0] (q_K o g) = (if y0 = 0 then q_sem (d + 1) mX11_addPlots 2 [.ref 0, .int x1, .int (x2 + 2), .int x3] [] (q_K o g) else (q_sem d mX6_get 0 [.ref 69, .int x1, .int (x2 + 1)] [] (q_K o g)).bind (fun r => q_sem (d + 1) mX11_addPlots 56 [.ref 0, .int x1, .int x2, .int x3] (r.1.toList ++ [.int x3, .ref 1]) r.2)) := by
  refine (q_blk (Y := mX11_addPlots) (q_dcC dX11_addPlots_37 q_dcN) (show _ = some ((if q_cc .eq y0 0 = true then 60 else 40), [.ref 0, .int x1, .int x2, .int x3], []) from rfl)).trans ?_
  by_cases c1 : y0 = 0
  · rw [if_pos (show q_cc .eq y0 0 = true from decide_eq_true c1)]
    refine Eq.trans ?_ (if_pos c1).symm
    refine (q_blk (Y := mX11_addPlots) (q_dcC dX11_addPlots_60 (q_dcC dX11_addPlots_63 q_dcN)) (show _ = some (2, [.ref 0, .int x1, .int (x2 + 2), .int x3], []) from rfl)).trans ?_
    rfl
  · rw [if_neg (show ¬ q_cc .eq y0 0 = true from fun z => c1 (of_decide_eq_true z))]
    refine Eq.trans ?_ (if_neg c1).symm
    refine (q_blk (Y := mX11_addPlots) (q_dcC dX11_addPlots_40 q_dcN) (show _ = some (41, [.ref 0, .int x1, .int x2, .int x3], [.ref 0]) from rfl)).trans ?_
    refine (k_getr (Y := mX11_addPlots) dX11_addPlots_41 rfl rfl ⟨by decide, rfl⟩ (by decide) rfl).trans ?_
    refine (q_blk (Y := mX11_addPlots) (q_dcC dX11_addPlots_44 (q_dcC dX11_addPlots_45 q_dcN)) (show _ = some (46, [.ref 0, .int x1, .int x2, .int x3], [.ref 0, .int x3, .ref 1]) from rfl)).trans ?_
    refine (k_getr (Y := mX11_addPlots) dX11_addPlots_46 rfl rfl ⟨by decide, rfl⟩ (by decide) rfl).trans ?_
    refine (q_blk (Y := mX11_addPlots) (q_dcC dX11_addPlots_49 (q_dcC dX11_addPlots_50 (q_dcC dX11_addPlots_51 (q_dcC dX11_addPlots_52 q_dcN)))) (show _ = some (53, [.ref 0, .int x1, .int x2, .int x3], [.int (x2 + 1), .int x1, .ref 69, .int x3, .ref 1]) from rfl)).trans ?_
    exact K_calV (d := d) (Y := mX11_addPlots) (Z := mX6_get) (vs := [.int x1, .int (x2 + 1)]) (rest := [.int x3, .ref 1]) (la := [.ref 69, .int x1, .int (x2 + 1)]) dX11_addPlots_53 rfl rfl rfl rfl ⟨by decide, rfl⟩ (Nat.le_of_ble_eq_true rfl) rfl (Nat.le_of_ble_eq_true rfl)
theorem B_X11_addPlots_11a {o : q_H} (d : Nat) (x1 x2 x3 y0 y1 : Int32) (g : Nat → Nat → Int32) : q_sem (d + 1) mX11_addPlots 11 [.ref 0, .int x1, .int x2, .int x3] [.int y0, .int y1] (q_K o g) = (if y0 ≤ y1 then some (none, q_K o g) else (q_sem d mX6_get 0 [.ref 69, .int x1, .int x2] [] (q_K o g)).bind (fun r => q_sem (d + 1) mX11_addPlots 23 [.ref 0, .int x1, .int x2, .int x3] (r.1.toList ++ []) r.2)) := by
  refine (q_blk (Y := mX11_addPlots) (q_dcC dX11_addPlots_11 q_dcN) (show _ = some ((if q_cc .ge y1 y0 = true then 66 else 14), [.ref 0, .int x1, .int x2, .int x3], []) from rfl)).trans ?_
  by_cases c1 : y0 ≤ y1
  · rw [if_pos (show q_cc .ge y1 y0 = true from decide_eq_true c1)]
    refine Eq.trans ?_ (if_pos c1).symm
    exact k_vret (Y := mX11_addPlots) dX11_addPlots_66 rfl
  · rw [if_neg (show ¬ q_cc .ge y1 y0 = true from fun z => c1 (of_decide_eq_true z))]
    refine Eq.trans ?_ (if_neg c1).symm
    refine (q_blk (Y := mX11_addPlots) (q_dcC dX11_addPlots_14 q_dcN) (show _ = some (15, [.ref 0, .int x1, .int x2, .int x3], [.ref 0]) from rfl)).trans ?_
    refine (k_getr (Y := mX11_addPlots) dX11_addPlots_15 rfl rfl ⟨by decide, rfl⟩ (by decide) rfl).trans ?_
    refine (q_blk (Y := mX11_addPlots) (q_dcC dX11_addPlots_18 (q_dcC dX11_addPlots_19 q_dcN)) (show _ = some (20, [.ref 0, .int x1, .int x2, .int x3], [.int x2, .int x1, .ref 69]) from rfl)).trans ?_
    exact K_calV (d := d) (Y := mX11_addPlots) (Z := mX6_get) (vs := [.int x1, .int x2]) (rest := []) (la := [.ref 69, .int x1, .int x2]) dX11_addPlots_20 rfl rfl rfl rfl ⟨by decide, rfl⟩ (Nat.le_of_ble_eq_true rfl) rfl (Nat.le_of_ble_eq_true rfl)
theorem B_X11_addPlots_56 {o : q_H} (d : Nat) (x1 x2 x3 y0 y1 : Int32) (g : Nat → Nat → Int32) : q_sem (d + 1) mX11_addPlots 56 [.ref 0, .int x1, .int x2, .int x3] [.int y0, .int y1, .ref 1] (q_K o g) = (q_sem d mX10_addPlot 0 [.ref 1, .int y1, .int y0, .retAddr 0] [] (q_K o g)).bind (fun r => q_sem (d + 1) mX11_addPlots 59 [.ref 0, .int x1, .int x2, .int x3] (r.1.toList ++ []) r.2) := by
  exact K_calV (d := d) (Y := mX11_addPlots) (Z := mX10_addPlot) (vs := [.int y1, .int y0]) (rest := []) (la := [.ref 1, .int y1, .int y0, .retAddr 0]) dX11_addPlots_56 rfl rfl rfl rfl ⟨by decide, rfl⟩ (Nat.le_of_ble_eq_true rfl) rfl (Nat.le_of_ble_eq_true rfl)
theorem B_X11_addPlots_23a {o : q_H} (d : Nat) (x1 x2 x3 y0 : Int32) (g : Nat → Nat → Int32) : q_sem (d + 1) mX11_addPlots 23 [.ref 0, .int x1, .int x2, .int x3] [.int y0] (q_K o g) = (if y0 = (-1) then q_sem (d + 1) mX11_addPlots 2 [.ref 0, .int x1, .int (x2 + 2), .int y0] [] (q_K o g) else (q_sem d mX10_isWatched 0 [.ref 1, .int y0] [] (q_K o g)).bind (fun r => q_sem (d + 1) mX11_addPlots 37 [.ref 0, .int x1, .int x2, .int y0] (r.1.toList ++ []) r.2)) := by
  refine (q_blk (Y := mX11_addPlots) (q_dcC dX11_addPlots_23 (q_dcC dX11_addPlots_24 (q_dcC dX11_addPlots_25 (q_dcC dX11_addPlots_26 q_dcN)))) (show _ = some ((if q_cc .eq y0 (-1) = true then 60 else 29), [.ref 0, .int x1, .int x2, .int y0], []) from rfl)).trans ?_
  by_cases c1 : y0 = (-1)
  · rw [if_pos (show q_cc .eq y0 (-1) = true from decide_eq_true c1)]
    refine Eq.trans ?_ (if_pos c1).symm
    refine (q_blk (Y := mX11_addPlots) (q_dcC dX11_addPlots_60 (q_dcC dX11_addPlots_63 q_dcN)) (show _ = some (2, [.ref 0, .int x1, .int (x2 + 2), .int y0], []) from rfl)).trans ?_
    rfl
  · rw [if_neg (show ¬ q_cc .eq y0 (-1) = true from fun z => c1 (of_decide_eq_true z))]
    refine Eq.trans ?_ (if_neg c1).symm
    refine (q_blk (Y := mX11_addPlots) (q_dcC dX11_addPlots_29 q_dcN) (show _ = some (30, [.ref 0, .int x1, .int x2, .int y0], [.ref 0]) from rfl)).trans ?_
    refine (k_getr (Y := mX11_addPlots) dX11_addPlots_30 rfl rfl ⟨by decide, rfl⟩ (by decide) rfl).trans ?_
    refine (q_blk (Y := mX11_addPlots) (q_dcC dX11_addPlots_33 q_dcN) (show _ = some (34, [.ref 0, .int x1, .int x2, .int y0], [.int y0, .ref 1]) from rfl)).trans ?_
    exact K_calV (d := d) (Y := mX11_addPlots) (Z := mX10_isWatched) (vs := [.int y0]) (rest := []) (la := [.ref 1, .int y0]) dX11_addPlots_34 rfl rfl rfl rfl ⟨by decide, rfl⟩ (Nat.le_of_ble_eq_true rfl) rfl (Nat.le_of_ble_eq_true rfl)
theorem B_X11_addPlots_59 {o : q_H} (d : Nat) (x1 x2 x3 y0 : Int32) (g : Nat → Nat → Int32) : q_sem (d) mX11_addPlots 59 [.ref 0, .int x1, .int x2, .int x3] [.int y0] (q_K o g) = q_sem (d) mX11_addPlots 2 [.ref 0, .int x1, .int (x2 + 2), .int x3] [] (q_K o g) := by
  refine (q_blk (Y := mX11_addPlots) (q_dcC dX11_addPlots_59 (q_dcC dX11_addPlots_60 (q_dcC dX11_addPlots_63 q_dcN))) (show _ = some (2, [.ref 0, .int x1, .int (x2 + 2), .int x3], []) from rfl)).trans ?_
  rfl
theorem B_X11_plotIs_0 {o : q_H} (d : Nat) (x1 x2 : Int32) (g : Nat → Nat → Int32) : q_sem (d + 1) mX11_plotIs 0 [.ref 0, .int x1, .int x2] [] (q_K o g) = (q_sem d mX7_has 0 [.ref 6, .int x1] [] (q_K o g)).bind (fun r => q_sem (d + 1) mX11_plotIs 11 [.ref 0, .int x1, .int x2] (r.1.toList ++ []) r.2) := by
  refine (q_blk (Y := mX11_plotIs) (q_dcC dX11_plotIs_0 q_dcN) (show _ = some (1, [.ref 0, .int x1, .int x2], [.ref 0]) from rfl)).trans ?_
  refine (k_getr (Y := mX11_plotIs) dX11_plotIs_1 rfl rfl ⟨by decide, rfl⟩ (by decide) rfl).trans ?_
  refine (k_getr (Y := mX11_plotIs) dX11_plotIs_4 rfl rfl ⟨by decide, rfl⟩ (by decide) rfl).trans ?_
  refine (q_blk (Y := mX11_plotIs) (q_dcC dX11_plotIs_7 q_dcN) (show _ = some (8, [.ref 0, .int x1, .int x2], [.int x1, .ref 6]) from rfl)).trans ?_
  exact K_calV (d := d) (Y := mX11_plotIs) (Z := mX7_has) (vs := [.int x1]) (rest := []) (la := [.ref 6, .int x1]) dX11_plotIs_8 rfl rfl rfl rfl ⟨by decide, rfl⟩ (Nat.le_of_ble_eq_true rfl) rfl (Nat.le_of_ble_eq_true rfl)
theorem B_X11_plotIs_11 {o : q_H} (d : Nat) (x1 x2 y0 : Int32) (g : Nat → Nat → Int32) : q_sem (d + 1) mX11_plotIs 11 [.ref 0, .int x1, .int x2] [.int y0] (q_K o g) = (if y0 = 0 then (q_sem d mX11_finding 0 [.ref 0, .int 1] [] (q_K o g)).bind (fun r => q_sem (d + 1) mX11_plotIs 43 [.ref 0, .int x1, .int x2] (r.1.toList ++ []) r.2) else (q_sem d mX11_within 0 [.int x2, .int 0, .int 2] [] (q_K o g)).bind (fun r => q_sem (d + 1) mX11_plotIs 20 [.ref 0, .int x1, .int x2] (r.1.toList ++ []) r.2)) := by
  refine (q_blk (Y := mX11_plotIs) (q_dcC dX11_plotIs_11 q_dcN) (show _ = some ((if q_cc .eq y0 0 = true then 38 else 14), [.ref 0, .int x1, .int x2], []) from rfl)).trans ?_
  by_cases c1 : y0 = 0
  · rw [if_pos (show q_cc .eq y0 0 = true from decide_eq_true c1)]
    refine Eq.trans ?_ (if_pos c1).symm
    refine (q_blk (Y := mX11_plotIs) (q_dcC dX11_plotIs_38 (q_dcC dX11_plotIs_39 q_dcN)) (show _ = some (40, [.ref 0, .int x1, .int x2], [.int 1, .ref 0]) from rfl)).trans ?_
    exact K_calV (d := d) (Y := mX11_plotIs) (Z := mX11_finding) (vs := [.int 1]) (rest := []) (la := [.ref 0, .int 1]) dX11_plotIs_40 rfl rfl rfl rfl ⟨by decide, rfl⟩ (Nat.le_of_ble_eq_true rfl) rfl (Nat.le_of_ble_eq_true rfl)
  · rw [if_neg (show ¬ q_cc .eq y0 0 = true from fun z => c1 (of_decide_eq_true z))]
    refine Eq.trans ?_ (if_neg c1).symm
    refine (q_blk (Y := mX11_plotIs) (q_dcC dX11_plotIs_14 (q_dcC dX11_plotIs_15 (q_dcC dX11_plotIs_16 q_dcN))) (show _ = some (17, [.ref 0, .int x1, .int x2], [.int 2, .int 0, .int x2]) from rfl)).trans ?_
    exact K_calS (d := d) (Y := mX11_plotIs) (Z := mX11_within) (vs := [.int x2, .int 0, .int 2]) (rest := []) (la := [.int x2, .int 0, .int 2]) dX11_plotIs_17 rfl rfl rfl rfl (Nat.le_of_ble_eq_true rfl) rfl (Nat.le_of_ble_eq_true rfl)
theorem B_X11_plotIs_43 {o : q_H} (d : Nat) (x1 x2 y0 : Int32) (g : Nat → Nat → Int32) : q_sem (d) mX11_plotIs 43 [.ref 0, .int x1, .int x2] [.int y0] (q_K o g) = some (some (.int y0), q_K o g) := by
  exact k_iret (Y := mX11_plotIs) dX11_plotIs_43 rfl
theorem B_X11_plotIs_20 {o : q_H} (d : Nat) (x1 x2 y0 : Int32) (g : Nat → Nat → Int32) : q_sem (d + 1) mX11_plotIs 20 [.ref 0, .int x1, .int x2] [.int y0] (q_K o g) = (if y0 = 0 then (q_sem d mX11_finding 0 [.ref 0, .int 1] [] (q_K o g)).bind (fun r => q_sem (d + 1) mX11_plotIs 43 [.ref 0, .int x1, .int x2] (r.1.toList ++ []) r.2) else (q_sem d mX7_get 0 [.ref 6, .int x1, .int x2] [] (q_K o g)).bind (fun r => q_sem (d + 1) mX11_plotIs 35 [.ref 0, .int x1, .int x2] (r.1.toList ++ []) r.2)) := by
  refine (q_blk (Y := mX11_plotIs) (q_dcC dX11_plotIs_20 q_dcN) (show _ = some ((if q_cc .eq y0 0 = true then 38 else 23), [.ref 0, .int x1, .int x2], []) from rfl)).trans ?_
  by_cases c1 : y0 = 0
  · rw [if_pos (show q_cc .eq y0 0 = true from decide_eq_true c1)]
    refine Eq.trans ?_ (if_pos c1).symm
    refine (q_blk (Y := mX11_plotIs) (q_dcC dX11_plotIs_38 (q_dcC dX11_plotIs_39 q_dcN)) (show _ = some (40, [.ref 0, .int x1, .int x2], [.int 1, .ref 0]) from rfl)).trans ?_
    exact K_calV (d := d) (Y := mX11_plotIs) (Z := mX11_finding) (vs := [.int 1]) (rest := []) (la := [.ref 0, .int 1]) dX11_plotIs_40 rfl rfl rfl rfl ⟨by decide, rfl⟩ (Nat.le_of_ble_eq_true rfl) rfl (Nat.le_of_ble_eq_true rfl)
  · rw [if_neg (show ¬ q_cc .eq y0 0 = true from fun z => c1 (of_decide_eq_true z))]
    refine Eq.trans ?_ (if_neg c1).symm
    refine (q_blk (Y := mX11_plotIs) (q_dcC dX11_plotIs_23 q_dcN) (show _ = some (24, [.ref 0, .int x1, .int x2], [.ref 0]) from rfl)).trans ?_
    refine (k_getr (Y := mX11_plotIs) dX11_plotIs_24 rfl rfl ⟨by decide, rfl⟩ (by decide) rfl).trans ?_
    refine (k_getr (Y := mX11_plotIs) dX11_plotIs_27 rfl rfl ⟨by decide, rfl⟩ (by decide) rfl).trans ?_
    refine (q_blk (Y := mX11_plotIs) (q_dcC dX11_plotIs_30 (q_dcC dX11_plotIs_31 q_dcN)) (show _ = some (32, [.ref 0, .int x1, .int x2], [.int x2, .int x1, .ref 6]) from rfl)).trans ?_
    exact K_calV (d := d) (Y := mX11_plotIs) (Z := mX7_get) (vs := [.int x1, .int x2]) (rest := []) (la := [.ref 6, .int x1, .int x2]) dX11_plotIs_32 rfl rfl rfl rfl ⟨by decide, rfl⟩ (Nat.le_of_ble_eq_true rfl) rfl (Nat.le_of_ble_eq_true rfl)
theorem B_X11_plotIs_35 {o : q_H} (d : Nat) (x1 x2 y0 : Int32) (g : Nat → Nat → Int32) : q_sem (d) mX11_plotIs 35 [.ref 0, .int x1, .int x2] [.int y0] (q_K o g) = some (some (.int y0), q_K o g) := by
  refine (q_blk (Y := mX11_plotIs) (q_dcC dX11_plotIs_35 q_dcN) (show _ = some (43, [.ref 0, .int x1, .int x2], [.int y0]) from rfl)).trans ?_
  exact k_iret (Y := mX11_plotIs) dX11_plotIs_43 rfl
theorem B_X11_follows_0 {o : q_H} (d : Nat) (x1 x2 : Int32) (g : Nat → Nat → Int32) : q_sem (d + 1) mX11_follows 0 [.ref 0, .int x1, .int x2] [] (q_K o g) = (q_sem d mX7_has 0 [.ref 6, .int x1] [] (q_K o g)).bind (fun r => q_sem (d + 1) mX11_follows 11 [.ref 0, .int x1, .int x2] (r.1.toList ++ []) r.2) := by
  refine (q_blk (Y := mX11_follows) (q_dcC dX11_follows_0 q_dcN) (show _ = some (1, [.ref 0, .int x1, .int x2], [.ref 0]) from rfl)).trans ?_
  refine (k_getr (Y := mX11_follows) dX11_follows_1 rfl rfl ⟨by decide, rfl⟩ (by decide) rfl).trans ?_
  refine (k_getr (Y := mX11_follows) dX11_follows_4 rfl rfl ⟨by decide, rfl⟩ (by decide) rfl).trans ?_
  refine (q_blk (Y := mX11_follows) (q_dcC dX11_follows_7 q_dcN) (show _ = some (8, [.ref 0, .int x1, .int x2], [.int x1, .ref 6]) from rfl)).trans ?_
  exact K_calV (d := d) (Y := mX11_follows) (Z := mX7_has) (vs := [.int x1]) (rest := []) (la := [.ref 6, .int x1]) dX11_follows_8 rfl rfl rfl rfl ⟨by decide, rfl⟩ (Nat.le_of_ble_eq_true rfl) rfl (Nat.le_of_ble_eq_true rfl)
theorem B_X11_follows_11 {o : q_H} (d : Nat) (x1 x2 y0 : Int32) (g : Nat → Nat → Int32) : q_sem (d + 1) mX11_follows 11 [.ref 0, .int x1, .int x2] [.int y0] (q_K o g) = (if y0 = 0 then (q_sem d mX11_finding 0 [.ref 0, .int 1] [] (q_K o g)).bind (fun r => q_sem (d + 1) mX11_follows 33 [.ref 0, .int x1, .int x2] (r.1.toList ++ []) r.2) else (q_sem d mX7_has 0 [.ref 6, .int x2] [] (q_K o g)).bind (fun r => q_sem (d + 1) mX11_follows 25 [.ref 0, .int x1, .int x2] (r.1.toList ++ []) r.2)) := by
  refine (q_blk (Y := mX11_follows) (q_dcC dX11_follows_11 q_dcN) (show _ = some ((if q_cc .eq y0 0 = true then 28 else 14), [.ref 0, .int x1, .int x2], []) from rfl)).trans ?_
  by_cases c1 : y0 = 0
  · rw [if_pos (show q_cc .eq y0 0 = true from decide_eq_true c1)]
    refine Eq.trans ?_ (if_pos c1).symm
    refine (q_blk (Y := mX11_follows) (q_dcC dX11_follows_28 (q_dcC dX11_follows_29 q_dcN)) (show _ = some (30, [.ref 0, .int x1, .int x2], [.int 1, .ref 0]) from rfl)).trans ?_
    exact K_calV (d := d) (Y := mX11_follows) (Z := mX11_finding) (vs := [.int 1]) (rest := []) (la := [.ref 0, .int 1]) dX11_follows_30 rfl rfl rfl rfl ⟨by decide, rfl⟩ (Nat.le_of_ble_eq_true rfl) rfl (Nat.le_of_ble_eq_true rfl)
  · rw [if_neg (show ¬ q_cc .eq y0 0 = true from fun z => c1 (of_decide_eq_true z))]
    refine Eq.trans ?_ (if_neg c1).symm
    refine (q_blk (Y := mX11_follows) (q_dcC dX11_follows_14 q_dcN) (show _ = some (15, [.ref 0, .int x1, .int x2], [.ref 0]) from rfl)).trans ?_
    refine (k_getr (Y := mX11_follows) dX11_follows_15 rfl rfl ⟨by decide, rfl⟩ (by decide) rfl).trans ?_
    refine (k_getr (Y := mX11_follows) dX11_follows_18 rfl rfl ⟨by decide, rfl⟩ (by decide) rfl).trans ?_
    refine (q_blk (Y := mX11_follows) (q_dcC dX11_follows_21 q_dcN) (show _ = some (22, [.ref 0, .int x1, .int x2], [.int x2, .ref 6]) from rfl)).trans ?_
    exact K_calV (d := d) (Y := mX11_follows) (Z := mX7_has) (vs := [.int x2]) (rest := []) (la := [.ref 6, .int x2]) dX11_follows_22 rfl rfl rfl rfl ⟨by decide, rfl⟩ (Nat.le_of_ble_eq_true rfl) rfl (Nat.le_of_ble_eq_true rfl)
theorem B_X11_follows_33 {o : q_H} (d : Nat) (x1 x2 y0 : Int32) (g : Nat → Nat → Int32) : q_sem (d) mX11_follows 33 [.ref 0, .int x1, .int x2] [.int y0] (q_K o g) = some (some (.int y0), q_K o g) := by
  exact k_iret (Y := mX11_follows) dX11_follows_33 rfl
theorem B_X11_follows_25 {o : q_H} (d : Nat) (x1 x2 y0 : Int32) (g : Nat → Nat → Int32) : q_sem (d + 1) mX11_follows 25 [.ref 0, .int x1, .int x2] [.int y0] (q_K o g) = (if y0 = 0 then (q_sem d mX11_finding 0 [.ref 0, .int 1] [] (q_K o g)).bind (fun r => q_sem (d + 1) mX11_follows 33 [.ref 0, .int x1, .int x2] (r.1.toList ++ []) r.2) else (q_sem d mX10_mayBeFollowed 0 [.ref 1, .int x1, .int x2, .retAddr 0] [] (q_K o g)).bind (fun r => q_sem (d + 1) mX11_follows 43 [.ref 0, .int x1, .int x2] (r.1.toList ++ []) r.2)) := by
  refine (q_blk (Y := mX11_follows) (q_dcC dX11_follows_25 q_dcN) (show _ = some ((if q_cc .ne y0 0 = true then 34 else 28), [.ref 0, .int x1, .int x2], []) from rfl)).trans ?_
  by_cases c1 : y0 = 0
  · rw [if_neg (show ¬ q_cc .ne y0 0 = true from fun z => (of_decide_eq_true z : ¬ y0 = 0) c1)]
    refine Eq.trans ?_ (if_pos c1).symm
    refine (q_blk (Y := mX11_follows) (q_dcC dX11_follows_28 (q_dcC dX11_follows_29 q_dcN)) (show _ = some (30, [.ref 0, .int x1, .int x2], [.int 1, .ref 0]) from rfl)).trans ?_
    exact K_calV (d := d) (Y := mX11_follows) (Z := mX11_finding) (vs := [.int 1]) (rest := []) (la := [.ref 0, .int 1]) dX11_follows_30 rfl rfl rfl rfl ⟨by decide, rfl⟩ (Nat.le_of_ble_eq_true rfl) rfl (Nat.le_of_ble_eq_true rfl)
  · rw [if_pos (show q_cc .ne y0 0 = true from decide_eq_true c1)]
    refine Eq.trans ?_ (if_neg c1).symm
    refine (q_blk (Y := mX11_follows) (q_dcC dX11_follows_34 q_dcN) (show _ = some (35, [.ref 0, .int x1, .int x2], [.ref 0]) from rfl)).trans ?_
    refine (k_getr (Y := mX11_follows) dX11_follows_35 rfl rfl ⟨by decide, rfl⟩ (by decide) rfl).trans ?_
    refine (q_blk (Y := mX11_follows) (q_dcC dX11_follows_38 (q_dcC dX11_follows_39 q_dcN)) (show _ = some (40, [.ref 0, .int x1, .int x2], [.int x2, .int x1, .ref 1]) from rfl)).trans ?_
    exact K_calV (d := d) (Y := mX11_follows) (Z := mX10_mayBeFollowed) (vs := [.int x1, .int x2]) (rest := []) (la := [.ref 1, .int x1, .int x2, .retAddr 0]) dX11_follows_40 rfl rfl rfl rfl ⟨by decide, rfl⟩ (Nat.le_of_ble_eq_true rfl) rfl (Nat.le_of_ble_eq_true rfl)
theorem B_X11_follows_43 {o : q_H} (d : Nat) (x1 x2 y0 : Int32) (g : Nat → Nat → Int32) : q_sem (d) mX11_follows 43 [.ref 0, .int x1, .int x2] [.int y0] (q_K o g) = (if y0 = 0 then some (some (.int 0), q_K o g) else some (some (.int 1), q_K o g)) := by
  refine (q_blk (Y := mX11_follows) (q_dcC dX11_follows_43 q_dcN) (show _ = some ((if q_cc .eq y0 0 = true then 50 else 46), [.ref 0, .int x1, .int x2], []) from rfl)).trans ?_
  by_cases c1 : y0 = 0
  · rw [if_pos (show q_cc .eq y0 0 = true from decide_eq_true c1)]
    refine Eq.trans ?_ (if_pos c1).symm
    refine (q_blk (Y := mX11_follows) (q_dcC dX11_follows_50 q_dcN) (show _ = some (51, [.ref 0, .int x1, .int x2], [.int 0]) from rfl)).trans ?_
    exact k_iret (Y := mX11_follows) dX11_follows_51 rfl
  · rw [if_neg (show ¬ q_cc .eq y0 0 = true from fun z => c1 (of_decide_eq_true z))]
    refine Eq.trans ?_ (if_neg c1).symm
    refine (q_blk (Y := mX11_follows) (q_dcC dX11_follows_46 (q_dcC dX11_follows_47 q_dcN)) (show _ = some (51, [.ref 0, .int x1, .int x2], [.int 1]) from rfl)).trans ?_
    exact k_iret (Y := mX11_follows) dX11_follows_51 rfl
theorem B_X11_tracking_0 {o : q_H} (d : Nat) (x1 x2 : Int32) (g : Nat → Nat → Int32) : q_sem (d + 1) mX11_tracking 0 [.ref 0, .int x1, .int x2] [] (q_K o g) = (q_sem d mX11_arePlots 0 [.ref 0, .int x1] [] (q_K o g)).bind (fun r => q_sem (d + 1) mX11_tracking 5 [.ref 0, .int x1, .int x2] (r.1.toList ++ []) r.2) := by
  refine (q_blk (Y := mX11_tracking) (q_dcC dX11_tracking_0 (q_dcC dX11_tracking_1 q_dcN)) (show _ = some (2, [.ref 0, .int x1, .int x2], [.int x1, .ref 0]) from rfl)).trans ?_
  exact K_calV (d := d) (Y := mX11_tracking) (Z := mX11_arePlots) (vs := [.int x1]) (rest := []) (la := [.ref 0, .int x1]) dX11_tracking_2 rfl rfl rfl rfl ⟨by decide, rfl⟩ (Nat.le_of_ble_eq_true rfl) rfl (Nat.le_of_ble_eq_true rfl)
theorem B_X11_tracking_5 {o : q_H} (d : Nat) (x1 x2 y0 : Int32) (g : Nat → Nat → Int32) : q_sem (d + 1) mX11_tracking 5 [.ref 0, .int x1, .int x2] [.int y0] (q_K o g) = (if y0 = 0 then (q_sem d mX11_finding 0 [.ref 0, .int 1] [] (q_K o g)).bind (fun r => q_sem (d + 1) mX11_tracking 19 [.ref 0, .int x1, .int x2] (r.1.toList ++ []) r.2) else (if (-2) ≤ x2 then (q_sem d mJ6_bitCount_0f7a4 0 [.int x1] [] (q_K o g)).bind (fun r => q_sem (d + 1) mX11_tracking 24 [.ref 0, .int x1, .int x2] (r.1.toList ++ []) r.2) else (q_sem d mX11_finding 0 [.ref 0, .int 1] [] (q_K o g)).bind (fun r => q_sem (d + 1) mX11_tracking 19 [.ref 0, .int x1, .int x2] (r.1.toList ++ []) r.2))) := by
  refine (q_blk (Y := mX11_tracking) (q_dcC dX11_tracking_5 q_dcN) (show _ = some ((if q_cc .eq y0 0 = true then 14 else 8), [.ref 0, .int x1, .int x2], []) from rfl)).trans ?_
  by_cases c1 : y0 = 0
  · rw [if_pos (show q_cc .eq y0 0 = true from decide_eq_true c1)]
    refine Eq.trans ?_ (if_pos c1).symm
    refine (q_blk (Y := mX11_tracking) (q_dcC dX11_tracking_14 (q_dcC dX11_tracking_15 q_dcN)) (show _ = some (16, [.ref 0, .int x1, .int x2], [.int 1, .ref 0]) from rfl)).trans ?_
    exact K_calV (d := d) (Y := mX11_tracking) (Z := mX11_finding) (vs := [.int 1]) (rest := []) (la := [.ref 0, .int 1]) dX11_tracking_16 rfl rfl rfl rfl ⟨by decide, rfl⟩ (Nat.le_of_ble_eq_true rfl) rfl (Nat.le_of_ble_eq_true rfl)
  · rw [if_neg (show ¬ q_cc .eq y0 0 = true from fun z => c1 (of_decide_eq_true z))]
    refine Eq.trans ?_ (if_neg c1).symm
    refine (q_blk (Y := mX11_tracking) (q_dcC dX11_tracking_8 (q_dcC dX11_tracking_9 (q_dcC dX11_tracking_11 q_dcN))) (show _ = some ((if q_cc .ge x2 (-2) = true then 20 else 14), [.ref 0, .int x1, .int x2], []) from rfl)).trans ?_
    by_cases c2 : (-2) ≤ x2
    · rw [if_pos (show q_cc .ge x2 (-2) = true from decide_eq_true c2)]
      refine Eq.trans ?_ (if_pos c2).symm
      refine (q_blk (Y := mX11_tracking) (q_dcC dX11_tracking_20 q_dcN) (show _ = some (21, [.ref 0, .int x1, .int x2], [.int x1]) from rfl)).trans ?_
      exact K_calS (d := d) (Y := mX11_tracking) (Z := mJ6_bitCount_0f7a4) (vs := [.int x1]) (rest := []) (la := [.int x1]) dX11_tracking_21 rfl rfl rfl rfl (Nat.le_of_ble_eq_true rfl) rfl (Nat.le_of_ble_eq_true rfl)
    · rw [if_neg (show ¬ q_cc .ge x2 (-2) = true from fun z => c2 (of_decide_eq_true z))]
      refine Eq.trans ?_ (if_neg c2).symm
      refine (q_blk (Y := mX11_tracking) (q_dcC dX11_tracking_14 (q_dcC dX11_tracking_15 q_dcN)) (show _ = some (16, [.ref 0, .int x1, .int x2], [.int 1, .ref 0]) from rfl)).trans ?_
      exact K_calV (d := d) (Y := mX11_tracking) (Z := mX11_finding) (vs := [.int 1]) (rest := []) (la := [.ref 0, .int 1]) dX11_tracking_16 rfl rfl rfl rfl ⟨by decide, rfl⟩ (Nat.le_of_ble_eq_true rfl) rfl (Nat.le_of_ble_eq_true rfl)
theorem B_X11_tracking_19 {o : q_H} (d : Nat) (x1 x2 y0 : Int32) (g : Nat → Nat → Int32) : q_sem (d) mX11_tracking 19 [.ref 0, .int x1, .int x2] [.int y0] (q_K o g) = some (some (.int y0), q_K o g) := by
  exact k_iret (Y := mX11_tracking) dX11_tracking_19 rfl
theorem B_X11_tracking_24 {o : q_H} (d : Nat) (x1 x2 y0 : Int32) (g : Nat → Nat → Int32) : q_sem (d + 1) mX11_tracking 24 [.ref 0, .int x1, .int x2] [.int y0] (q_K o g) = (q_sem d mX11_within 0 [.int y0, .int 1, .int 9] [] (q_K o g)).bind (fun r => q_sem (d + 1) mX11_tracking 30 [.ref 0, .int x1, .int x2] (r.1.toList ++ []) r.2) := by
  refine (q_blk (Y := mX11_tracking) (q_dcC dX11_tracking_24 (q_dcC dX11_tracking_25 q_dcN)) (show _ = some (27, [.ref 0, .int x1, .int x2], [.int 9, .int 1, .int y0]) from rfl)).trans ?_
  exact K_calS (d := d) (Y := mX11_tracking) (Z := mX11_within) (vs := [.int y0, .int 1, .int 9]) (rest := []) (la := [.int y0, .int 1, .int 9]) dX11_tracking_27 rfl rfl rfl rfl (Nat.le_of_ble_eq_true rfl) rfl (Nat.le_of_ble_eq_true rfl)
theorem B_X11_tracking_30 {o : q_H} (d : Nat) (x1 x2 y0 : Int32) (g : Nat → Nat → Int32) : q_sem (d + 1) mX11_tracking 30 [.ref 0, .int x1, .int x2] [.int y0] (q_K o g) = (if y0 = 0 then (q_sem d mX11_finding 0 [.ref 0, .int 5] [] (q_K o g)).bind (fun r => q_sem (d + 1) mX11_tracking 38 [.ref 0, .int x1, .int x2] (r.1.toList ++ []) r.2) else (if x2 < 0 then (q_sem d mX11_matchPlots 0 [.ref 0, .int x1, .retAddr 0, .retAddr 0, .retAddr 0, .retAddr 0] [] (q_K o g)).bind (fun r => q_sem (d + 1) mX11_tracking 62 [.ref 0, .int x1, .int x2] (r.1.toList ++ []) r.2) else (q_sem d mX11_isIn 0 [.int x1, .int x2] [] (q_K o g)).bind (fun r => q_sem (d + 1) mX11_tracking 48 [.ref 0, .int x1, .int x2] (r.1.toList ++ []) r.2))) := by
  refine (q_blk (Y := mX11_tracking) (q_dcC dX11_tracking_30 q_dcN) (show _ = some ((if q_cc .ne y0 0 = true then 39 else 33), [.ref 0, .int x1, .int x2], []) from rfl)).trans ?_
  by_cases c1 : y0 = 0
  · rw [if_neg (show ¬ q_cc .ne y0 0 = true from fun z => (of_decide_eq_true z : ¬ y0 = 0) c1)]
    refine Eq.trans ?_ (if_pos c1).symm
    refine (q_blk (Y := mX11_tracking) (q_dcC dX11_tracking_33 (q_dcC dX11_tracking_34 q_dcN)) (show _ = some (35, [.ref 0, .int x1, .int x2], [.int 5, .ref 0]) from rfl)).trans ?_
    exact K_calV (d := d) (Y := mX11_tracking) (Z := mX11_finding) (vs := [.int 5]) (rest := []) (la := [.ref 0, .int 5]) dX11_tracking_35 rfl rfl rfl rfl ⟨by decide, rfl⟩ (Nat.le_of_ble_eq_true rfl) rfl (Nat.le_of_ble_eq_true rfl)
  · rw [if_pos (show q_cc .ne y0 0 = true from decide_eq_true c1)]
    refine Eq.trans ?_ (if_neg c1).symm
    refine (q_blk (Y := mX11_tracking) (q_dcC dX11_tracking_39 (q_dcC dX11_tracking_40 q_dcN)) (show _ = some ((if q_cc .lt x2 0 = true then 57 else 43), [.ref 0, .int x1, .int x2], []) from rfl)).trans ?_
    by_cases c2 : x2 < 0
    · rw [if_pos (show q_cc .lt x2 0 = true from decide_eq_true c2)]
      refine Eq.trans ?_ (if_pos c2).symm
      refine (q_blk (Y := mX11_tracking) (q_dcC dX11_tracking_57 (q_dcC dX11_tracking_58 q_dcN)) (show _ = some (59, [.ref 0, .int x1, .int x2], [.int x1, .ref 0]) from rfl)).trans ?_
      exact K_calV (d := d) (Y := mX11_tracking) (Z := mX11_matchPlots) (vs := [.int x1]) (rest := []) (la := [.ref 0, .int x1, .retAddr 0, .retAddr 0, .retAddr 0, .retAddr 0]) dX11_tracking_59 rfl rfl rfl rfl ⟨by decide, rfl⟩ (Nat.le_of_ble_eq_true rfl) rfl (Nat.le_of_ble_eq_true rfl)
    · rw [if_neg (show ¬ q_cc .lt x2 0 = true from fun z => c2 (of_decide_eq_true z))]
      refine Eq.trans ?_ (if_neg c2).symm
      refine (q_blk (Y := mX11_tracking) (q_dcC dX11_tracking_43 (q_dcC dX11_tracking_44 q_dcN)) (show _ = some (45, [.ref 0, .int x1, .int x2], [.int x2, .int x1]) from rfl)).trans ?_
      exact K_calS (d := d) (Y := mX11_tracking) (Z := mX11_isIn) (vs := [.int x1, .int x2]) (rest := []) (la := [.int x1, .int x2]) dX11_tracking_45 rfl rfl rfl rfl (Nat.le_of_ble_eq_true rfl) rfl (Nat.le_of_ble_eq_true rfl)
theorem B_X11_tracking_38 {o : q_H} (d : Nat) (x1 x2 y0 : Int32) (g : Nat → Nat → Int32) : q_sem (d) mX11_tracking 38 [.ref 0, .int x1, .int x2] [.int y0] (q_K o g) = some (some (.int y0), q_K o g) := by
  exact k_iret (Y := mX11_tracking) dX11_tracking_38 rfl
theorem B_X11_tracking_62 {o : q_H} (d : Nat) (x1 x2 : Int32) (g : Nat → Nat → Int32) : q_sem (d + 1) mX11_tracking 62 [.ref 0, .int x1, .int x2] [] (q_K o g) = (q_sem d mX1_solve 0 [.ref 72, .int 9, .retAddr 0, .retAddr 0, .retAddr 0] [] (q_K o g)).bind (fun r => q_sem (d + 1) mX11_tracking 71 [.ref 0, .int x1, .int x2] (r.1.toList ++ []) r.2) := by
  refine (q_blk (Y := mX11_tracking) (q_dcC dX11_tracking_62 q_dcN) (show _ = some (63, [.ref 0, .int x1, .int x2], [.ref 0]) from rfl)).trans ?_
  refine (k_getr (Y := mX11_tracking) dX11_tracking_63 rfl rfl ⟨by decide, rfl⟩ (by decide) rfl).trans ?_
  refine (q_blk (Y := mX11_tracking) (q_dcC dX11_tracking_66 q_dcN) (show _ = some (68, [.ref 0, .int x1, .int x2], [.int 9, .ref 72]) from rfl)).trans ?_
  exact K_calV (d := d) (Y := mX11_tracking) (Z := mX1_solve) (vs := [.int 9]) (rest := []) (la := [.ref 72, .int 9, .retAddr 0, .retAddr 0, .retAddr 0]) dX11_tracking_68 rfl rfl rfl rfl ⟨by decide, rfl⟩ (Nat.le_of_ble_eq_true rfl) rfl (Nat.le_of_ble_eq_true rfl)
theorem B_X11_tracking_48 {o : q_H} (d : Nat) (x1 x2 y0 : Int32) (g : Nat → Nat → Int32) : q_sem (d + 1) mX11_tracking 48 [.ref 0, .int x1, .int x2] [.int y0] (q_K o g) = (if y0 = 0 then (q_sem d mX11_finding 0 [.ref 0, .int 2] [] (q_K o g)).bind (fun r => q_sem (d + 1) mX11_tracking 56 [.ref 0, .int x1, .int x2] (r.1.toList ++ []) r.2) else (q_sem d mX11_matchPlots 0 [.ref 0, .int x1, .retAddr 0, .retAddr 0, .retAddr 0, .retAddr 0] [] (q_K o g)).bind (fun r => q_sem (d + 1) mX11_tracking 62 [.ref 0, .int x1, .int x2] (r.1.toList ++ []) r.2)) := by
  refine (q_blk (Y := mX11_tracking) (q_dcC dX11_tracking_48 q_dcN) (show _ = some ((if q_cc .ne y0 0 = true then 57 else 51), [.ref 0, .int x1, .int x2], []) from rfl)).trans ?_
  by_cases c1 : y0 = 0
  · rw [if_neg (show ¬ q_cc .ne y0 0 = true from fun z => (of_decide_eq_true z : ¬ y0 = 0) c1)]
    refine Eq.trans ?_ (if_pos c1).symm
    refine (q_blk (Y := mX11_tracking) (q_dcC dX11_tracking_51 (q_dcC dX11_tracking_52 q_dcN)) (show _ = some (53, [.ref 0, .int x1, .int x2], [.int 2, .ref 0]) from rfl)).trans ?_
    exact K_calV (d := d) (Y := mX11_tracking) (Z := mX11_finding) (vs := [.int 2]) (rest := []) (la := [.ref 0, .int 2]) dX11_tracking_53 rfl rfl rfl rfl ⟨by decide, rfl⟩ (Nat.le_of_ble_eq_true rfl) rfl (Nat.le_of_ble_eq_true rfl)
  · rw [if_pos (show q_cc .ne y0 0 = true from decide_eq_true c1)]
    refine Eq.trans ?_ (if_neg c1).symm
    refine (q_blk (Y := mX11_tracking) (q_dcC dX11_tracking_57 (q_dcC dX11_tracking_58 q_dcN)) (show _ = some (59, [.ref 0, .int x1, .int x2], [.int x1, .ref 0]) from rfl)).trans ?_
    exact K_calV (d := d) (Y := mX11_tracking) (Z := mX11_matchPlots) (vs := [.int x1]) (rest := []) (la := [.ref 0, .int x1, .retAddr 0, .retAddr 0, .retAddr 0, .retAddr 0]) dX11_tracking_59 rfl rfl rfl rfl ⟨by decide, rfl⟩ (Nat.le_of_ble_eq_true rfl) rfl (Nat.le_of_ble_eq_true rfl)
theorem B_X11_tracking_71 {o : q_H} (d : Nat) (x1 x2 : Int32) (g : Nat → Nat → Int32) : q_sem (d + 1) mX11_tracking 71 [.ref 0, .int x1, .int x2] [] (q_K o g) = (if x2 = (-1) then (q_sem d mJ6_bitCount_0f7a4 0 [.int x1] [] (q_K o g)).bind (fun r => q_sem (d + 1) mX11_tracking 80 [.ref 0, .int x1, .int x2] (r.1.toList ++ []) r.2) else (if x2 = (-2) then (q_sem d mX1_sum 0 [.ref 72] [] (q_K o g)).bind (fun r => q_sem (d + 1) mX11_tracking 102 [.ref 0, .int x1, .int x2] (r.1.toList ++ []) r.2) else (q_sem d mX7_indexOf 0 [.ref 73, .int x2, .retAddr 0] [] (q_K o g)).bind (fun r => q_sem (d + 1) mX11_tracking 120 [.ref 0, .int x1, .int x2] (r.1.toList ++ [.ref 72]) r.2))) := by
  refine (q_blk (Y := mX11_tracking) (q_dcC dX11_tracking_71 (q_dcC dX11_tracking_72 (q_dcC dX11_tracking_73 q_dcN))) (show _ = some ((if q_cc .ne x2 (-1) = true then 89 else 76), [.ref 0, .int x1, .int x2], []) from rfl)).trans ?_
  by_cases c1 : x2 = (-1)
  · rw [if_neg (show ¬ q_cc .ne x2 (-1) = true from fun z => (of_decide_eq_true z : ¬ x2 = (-1)) c1)]
    refine Eq.trans ?_ (if_pos c1).symm
    refine (q_blk (Y := mX11_tracking) (q_dcC dX11_tracking_76 q_dcN) (show _ = some (77, [.ref 0, .int x1, .int x2], [.int x1]) from rfl)).trans ?_
    exact K_calS (d := d) (Y := mX11_tracking) (Z := mJ6_bitCount_0f7a4) (vs := [.int x1]) (rest := []) (la := [.int x1]) dX11_tracking_77 rfl rfl rfl rfl (Nat.le_of_ble_eq_true rfl) rfl (Nat.le_of_ble_eq_true rfl)
  · rw [if_pos (show q_cc .ne x2 (-1) = true from decide_eq_true c1)]
    refine Eq.trans ?_ (if_neg c1).symm
    refine (q_blk (Y := mX11_tracking) (q_dcC dX11_tracking_89 (q_dcC dX11_tracking_90 (q_dcC dX11_tracking_92 q_dcN))) (show _ = some ((if q_cc .ne x2 (-2) = true then 105 else 95), [.ref 0, .int x1, .int x2], []) from rfl)).trans ?_
    by_cases c2 : x2 = (-2)
    · rw [if_neg (show ¬ q_cc .ne x2 (-2) = true from fun z => (of_decide_eq_true z : ¬ x2 = (-2)) c2)]
      refine Eq.trans ?_ (if_pos c2).symm
      refine (q_blk (Y := mX11_tracking) (q_dcC dX11_tracking_95 q_dcN) (show _ = some (96, [.ref 0, .int x1, .int x2], [.ref 0]) from rfl)).trans ?_
      refine (k_getr (Y := mX11_tracking) dX11_tracking_96 rfl rfl ⟨by decide, rfl⟩ (by decide) rfl).trans ?_
      exact K_calV (d := d) (Y := mX11_tracking) (Z := mX1_sum) (vs := []) (rest := []) (la := [.ref 72]) dX11_tracking_99 rfl rfl rfl rfl ⟨by decide, rfl⟩ (Nat.le_of_ble_eq_true rfl) rfl (Nat.le_of_ble_eq_true rfl)
    · rw [if_pos (show q_cc .ne x2 (-2) = true from decide_eq_true c2)]
      refine Eq.trans ?_ (if_neg c2).symm
      refine (q_blk (Y := mX11_tracking) (q_dcC dX11_tracking_105 q_dcN) (show _ = some (106, [.ref 0, .int x1, .int x2], [.ref 0]) from rfl)).trans ?_
      refine (k_getr (Y := mX11_tracking) dX11_tracking_106 rfl rfl ⟨by decide, rfl⟩ (by decide) rfl).trans ?_
      refine (q_blk (Y := mX11_tracking) (q_dcC dX11_tracking_109 q_dcN) (show _ = some (110, [.ref 0, .int x1, .int x2], [.ref 0, .ref 72]) from rfl)).trans ?_
      refine (k_getr (Y := mX11_tracking) dX11_tracking_110 rfl rfl ⟨by decide, rfl⟩ (by decide) rfl).trans ?_
      refine (k_getr (Y := mX11_tracking) dX11_tracking_113 rfl rfl ⟨by decide, rfl⟩ (by decide) rfl).trans ?_
      refine (q_blk (Y := mX11_tracking) (q_dcC dX11_tracking_116 q_dcN) (show _ = some (117, [.ref 0, .int x1, .int x2], [.int x2, .ref 73, .ref 72]) from rfl)).trans ?_
      exact K_calV (d := d) (Y := mX11_tracking) (Z := mX7_indexOf) (vs := [.int x2]) (rest := [.ref 72]) (la := [.ref 73, .int x2, .retAddr 0]) dX11_tracking_117 rfl rfl rfl rfl ⟨by decide, rfl⟩ (Nat.le_of_ble_eq_true rfl) rfl (Nat.le_of_ble_eq_true rfl)
theorem B_X11_tracking_56 {o : q_H} (d : Nat) (x1 x2 y0 : Int32) (g : Nat → Nat → Int32) : q_sem (d) mX11_tracking 56 [.ref 0, .int x1, .int x2] [.int y0] (q_K o g) = some (some (.int y0), q_K o g) := by
  exact k_iret (Y := mX11_tracking) dX11_tracking_56 rfl
theorem B_X11_tracking_80 {o : q_H} (d : Nat) (x1 x2 y0 : Int32) (g : Nat → Nat → Int32) : q_sem (d + 1) mX11_tracking 80 [.ref 0, .int x1, .int x2] [.int y0] (q_K o g) = (q_sem d mX1_pairs 0 [.ref 72] [] (q_K o g)).bind (fun r => q_sem (d + 1) mX11_tracking 87 [.ref 0, .int x1, .int x2] (r.1.toList ++ [.int y0]) r.2) := by
  refine (q_blk (Y := mX11_tracking) (q_dcC dX11_tracking_80 q_dcN) (show _ = some (81, [.ref 0, .int x1, .int x2], [.ref 0, .int y0]) from rfl)).trans ?_
  refine (k_getr (Y := mX11_tracking) dX11_tracking_81 rfl rfl ⟨by decide, rfl⟩ (by decide) rfl).trans ?_
  exact K_calV (d := d) (Y := mX11_tracking) (Z := mX1_pairs) (vs := []) (rest := [.int y0]) (la := [.ref 72]) dX11_tracking_84 rfl rfl rfl rfl ⟨by decide, rfl⟩ (Nat.le_of_ble_eq_true rfl) rfl (Nat.le_of_ble_eq_true rfl)
theorem B_X11_tracking_102 {o : q_H} (d : Nat) (x1 x2 y0 : Int32) (g : Nat → Nat → Int32) : q_sem (d) mX11_tracking 102 [.ref 0, .int x1, .int x2] [.int y0] (q_K o g) = some (some (.int y0), q_K o g) := by
  refine (q_blk (Y := mX11_tracking) (q_dcC dX11_tracking_102 q_dcN) (show _ = some (123, [.ref 0, .int x1, .int x2], [.int y0]) from rfl)).trans ?_
  exact k_iret (Y := mX11_tracking) dX11_tracking_123 rfl
theorem B_X11_tracking_120 {o : q_H} (d : Nat) (x1 x2 y0 : Int32) (g : Nat → Nat → Int32) : q_sem (d + 1) mX11_tracking 120 [.ref 0, .int x1, .int x2] [.int y0, .ref 72] (q_K o g) = (q_sem d mX1_partner 0 [.ref 72, .int y0, .retAddr 0] [] (q_K o g)).bind (fun r => q_sem (d + 1) mX11_tracking 123 [.ref 0, .int x1, .int x2] (r.1.toList ++ []) r.2) := by
  exact K_calV (d := d) (Y := mX11_tracking) (Z := mX1_partner) (vs := [.int y0]) (rest := []) (la := [.ref 72, .int y0, .retAddr 0]) dX11_tracking_120 rfl rfl rfl rfl ⟨by decide, rfl⟩ (Nat.le_of_ble_eq_true rfl) rfl (Nat.le_of_ble_eq_true rfl)
theorem B_X11_tracking_87 {o : q_H} (d : Nat) (x1 x2 y0 y1 : Int32) (g : Nat → Nat → Int32) : q_sem (d) mX11_tracking 87 [.ref 0, .int x1, .int x2] [.int y0, .int y1] (q_K o g) = some (some (.int (y1 - y0)), q_K o g) := by
  refine (q_blk (Y := mX11_tracking) (q_dcC dX11_tracking_87 q_dcN) (show _ = some (88, [.ref 0, .int x1, .int x2], [.int (y1 - y0)]) from rfl)).trans ?_
  exact k_iret (Y := mX11_tracking) dX11_tracking_88 rfl
theorem B_X11_tracking_123 {o : q_H} (d : Nat) (x1 x2 y0 : Int32) (g : Nat → Nat → Int32) : q_sem (d) mX11_tracking 123 [.ref 0, .int x1, .int x2] [.int y0] (q_K o g) = some (some (.int y0), q_K o g) := by
  exact k_iret (Y := mX11_tracking) dX11_tracking_123 rfl
theorem B_X11_matchPlots_0 {o : q_H} (d : Nat) (x1 : Int32) (g : Nat → Nat → Int32) : q_sem (d + 1) mX11_matchPlots 0 [.ref 0, .int x1, .retAddr 0, .retAddr 0, .retAddr 0, .retAddr 0] [] (q_K o g) = (q_sem d mX1_begin 0 [.ref 72, .retAddr 0, .retAddr 0] [] (q_K o g)).bind (fun r => q_sem (d + 1) mX11_matchPlots 7 [.ref 0, .int x1, .retAddr 0, .retAddr 0, .retAddr 0, .retAddr 0] (r.1.toList ++ []) r.2) := by
  refine (q_blk (Y := mX11_matchPlots) (q_dcC dX11_matchPlots_0 q_dcN) (show _ = some (1, [.ref 0, .int x1, .retAddr 0, .retAddr 0, .retAddr 0, .retAddr 0], [.ref 0]) from rfl)).trans ?_
  refine (k_getr (Y := mX11_matchPlots) dX11_matchPlots_1 rfl rfl ⟨by decide, rfl⟩ (by decide) rfl).trans ?_
  exact K_calV (d := d) (Y := mX11_matchPlots) (Z := mX1_begin) (vs := []) (rest := []) (la := [.ref 72, .retAddr 0, .retAddr 0]) dX11_matchPlots_4 rfl rfl rfl rfl ⟨by decide, rfl⟩ (Nat.le_of_ble_eq_true rfl) rfl (Nat.le_of_ble_eq_true rfl)
theorem B_X11_matchPlots_7 {o : q_H} (d : Nat) (x1 : Int32) (g : Nat → Nat → Int32) : q_sem (d) mX11_matchPlots 7 [.ref 0, .int x1, .retAddr 0, .retAddr 0, .retAddr 0, .retAddr 0] [] (q_K o g) = q_sem (d) mX11_matchPlots 9 [.ref 0, .int x1, .int 0, .retAddr 0, .retAddr 0, .retAddr 0] [] (q_K o g) := by
  refine (q_blk (Y := mX11_matchPlots) (q_dcC dX11_matchPlots_7 (q_dcC dX11_matchPlots_8 q_dcN)) (show _ = some (9, [.ref 0, .int x1, .int 0, .retAddr 0, .retAddr 0, .retAddr 0], []) from rfl)).trans ?_
  rfl
theorem B_X11_matchPlots_9 {o : q_H} (d : Nat) (x1 x2 : Int32) (g : Nat → Nat → Int32) : q_sem (d + 1) mX11_matchPlots 9 [.ref 0, .int x1, .int x2, .retAddr 0, .retAddr 0, .retAddr 0] [] (q_K o g) = (q_sem d mX7_size 0 [.ref 6] [] (q_K o g)).bind (fun r => q_sem (d + 1) mX11_matchPlots 20 [.ref 0, .int x1, .int x2, .retAddr 0, .retAddr 0, .retAddr 0] (r.1.toList ++ [.int x2]) r.2) := by
  refine (q_blk (Y := mX11_matchPlots) (q_dcC dX11_matchPlots_9 (q_dcC dX11_matchPlots_10 q_dcN)) (show _ = some (11, [.ref 0, .int x1, .int x2, .retAddr 0, .retAddr 0, .retAddr 0], [.ref 0, .int x2]) from rfl)).trans ?_
  refine (k_getr (Y := mX11_matchPlots) dX11_matchPlots_11 rfl rfl ⟨by decide, rfl⟩ (by decide) rfl).trans ?_
  refine (k_getr (Y := mX11_matchPlots) dX11_matchPlots_14 rfl rfl ⟨by decide, rfl⟩ (by decide) rfl).trans ?_
  exact K_calV (d := d) (Y := mX11_matchPlots) (Z := mX7_size) (vs := []) (rest := [.int x2]) (la := [.ref 6]) dX11_matchPlots_17 rfl rfl rfl rfl ⟨by decide, rfl⟩ (Nat.le_of_ble_eq_true rfl) rfl (Nat.le_of_ble_eq_true rfl)
theorem B_X11_matchPlots_20 {o : q_H} (d : Nat) (x1 x2 y0 y1 : Int32) (g : Nat → Nat → Int32) : q_sem (d + 1) mX11_matchPlots 20 [.ref 0, .int x1, .int x2, .retAddr 0, .retAddr 0, .retAddr 0] [.int y0, .int y1] (q_K o g) = (if y0 ≤ y1 then q_sem (d + 1) mX11_matchPlots 63 [.ref 0, .int x1, .int 0, .retAddr 0, .retAddr 0, .retAddr 0] [] (q_K o g) else (q_sem d mX11_isIn 0 [.int x1, .int x2] [] (q_K o g)).bind (fun r => q_sem (d + 1) mX11_matchPlots 28 [.ref 0, .int x1, .int x2, .retAddr 0, .retAddr 0, .retAddr 0] (r.1.toList ++ []) r.2)) := by
  refine (q_blk (Y := mX11_matchPlots) (q_dcC dX11_matchPlots_20 q_dcN) (show _ = some ((if q_cc .ge y1 y0 = true then 61 else 23), [.ref 0, .int x1, .int x2, .retAddr 0, .retAddr 0, .retAddr 0], []) from rfl)).trans ?_
  by_cases c1 : y0 ≤ y1
  · rw [if_pos (show q_cc .ge y1 y0 = true from decide_eq_true c1)]
    refine Eq.trans ?_ (if_pos c1).symm
    refine (q_blk (Y := mX11_matchPlots) (q_dcC dX11_matchPlots_61 (q_dcC dX11_matchPlots_62 q_dcN)) (show _ = some (63, [.ref 0, .int x1, .int 0, .retAddr 0, .retAddr 0, .retAddr 0], []) from rfl)).trans ?_
    rfl
  · rw [if_neg (show ¬ q_cc .ge y1 y0 = true from fun z => c1 (of_decide_eq_true z))]
    refine Eq.trans ?_ (if_neg c1).symm
    refine (q_blk (Y := mX11_matchPlots) (q_dcC dX11_matchPlots_23 (q_dcC dX11_matchPlots_24 q_dcN)) (show _ = some (25, [.ref 0, .int x1, .int x2, .retAddr 0, .retAddr 0, .retAddr 0], [.int x2, .int x1]) from rfl)).trans ?_
    exact K_calS (d := d) (Y := mX11_matchPlots) (Z := mX11_isIn) (vs := [.int x1, .int x2]) (rest := []) (la := [.int x1, .int x2]) dX11_matchPlots_25 rfl rfl rfl rfl (Nat.le_of_ble_eq_true rfl) rfl (Nat.le_of_ble_eq_true rfl)
theorem B_X11_matchPlots_63 {o : q_H} (d : Nat) (x1 x2 : Int32) (g : Nat → Nat → Int32) : q_sem (d + 1) mX11_matchPlots 63 [.ref 0, .int x1, .int x2, .retAddr 0, .retAddr 0, .retAddr 0] [] (q_K o g) = (q_sem d mX7_size 0 [.ref 73] [] (q_K o g)).bind (fun r => q_sem (d + 1) mX11_matchPlots 74 [.ref 0, .int x1, .int x2, .retAddr 0, .retAddr 0, .retAddr 0] (r.1.toList ++ [.int x2]) r.2) := by
  refine (q_blk (Y := mX11_matchPlots) (q_dcC dX11_matchPlots_63 (q_dcC dX11_matchPlots_64 q_dcN)) (show _ = some (65, [.ref 0, .int x1, .int x2, .retAddr 0, .retAddr 0, .retAddr 0], [.ref 0, .int x2]) from rfl)).trans ?_
  refine (k_getr (Y := mX11_matchPlots) dX11_matchPlots_65 rfl rfl ⟨by decide, rfl⟩ (by decide) rfl).trans ?_
  refine (k_getr (Y := mX11_matchPlots) dX11_matchPlots_68 rfl rfl ⟨by decide, rfl⟩ (by decide) rfl).trans ?_
  exact K_calV (d := d) (Y := mX11_matchPlots) (Z := mX7_size) (vs := []) (rest := [.int x2]) (la := [.ref 73]) dX11_matchPlots_71 rfl rfl rfl rfl ⟨by decide, rfl⟩ (Nat.le_of_ble_eq_true rfl) rfl (Nat.le_of_ble_eq_true rfl)
theorem B_X11_matchPlots_28 {o : q_H} (d : Nat) (x1 x2 y0 : Int32) (g : Nat → Nat → Int32) : q_sem (d + 1) mX11_matchPlots 28 [.ref 0, .int x1, .int x2, .retAddr 0, .retAddr 0, .retAddr 0] [.int y0] (q_K o g) = (if y0 = 0 then q_sem (d + 1) mX11_matchPlots 9 [.ref 0, .int x1, .int (x2 + 1), .retAddr 0, .retAddr 0, .retAddr 0] [] (q_K o g) else (q_sem d mX7_add 0 [.ref 73, .int x2, .retAddr 0] [] (q_K o g)).bind (fun r => q_sem (d + 1) mX11_matchPlots 42 [.ref 0, .int x1, .int x2, .retAddr 0, .retAddr 0, .retAddr 0] (r.1.toList ++ []) r.2)) := by
  refine (q_blk (Y := mX11_matchPlots) (q_dcC dX11_matchPlots_28 q_dcN) (show _ = some ((if q_cc .eq y0 0 = true then 55 else 31), [.ref 0, .int x1, .int x2, .retAddr 0, .retAddr 0, .retAddr 0], []) from rfl)).trans ?_
  by_cases c1 : y0 = 0
  · rw [if_pos (show q_cc .eq y0 0 = true from decide_eq_true c1)]
    refine Eq.trans ?_ (if_pos c1).symm
    refine (q_blk (Y := mX11_matchPlots) (q_dcC dX11_matchPlots_55 (q_dcC dX11_matchPlots_58 q_dcN)) (show _ = some (9, [.ref 0, .int x1, .int (x2 + 1), .retAddr 0, .retAddr 0, .retAddr 0], []) from rfl)).trans ?_
    rfl
  · rw [if_neg (show ¬ q_cc .eq y0 0 = true from fun z => c1 (of_decide_eq_true z))]
    refine Eq.trans ?_ (if_neg c1).symm
    refine (q_blk (Y := mX11_matchPlots) (q_dcC dX11_matchPlots_31 q_dcN) (show _ = some (32, [.ref 0, .int x1, .int x2, .retAddr 0, .retAddr 0, .retAddr 0], [.ref 0]) from rfl)).trans ?_
    refine (k_getr (Y := mX11_matchPlots) dX11_matchPlots_32 rfl rfl ⟨by decide, rfl⟩ (by decide) rfl).trans ?_
    refine (k_getr (Y := mX11_matchPlots) dX11_matchPlots_35 rfl rfl ⟨by decide, rfl⟩ (by decide) rfl).trans ?_
    refine (q_blk (Y := mX11_matchPlots) (q_dcC dX11_matchPlots_38 q_dcN) (show _ = some (39, [.ref 0, .int x1, .int x2, .retAddr 0, .retAddr 0, .retAddr 0], [.int x2, .ref 73]) from rfl)).trans ?_
    exact K_calV (d := d) (Y := mX11_matchPlots) (Z := mX7_add) (vs := [.int x2]) (rest := []) (la := [.ref 73, .int x2, .retAddr 0]) dX11_matchPlots_39 rfl rfl rfl rfl ⟨by decide, rfl⟩ (Nat.le_of_ble_eq_true rfl) rfl (Nat.le_of_ble_eq_true rfl)
theorem B_X11_matchPlots_74 {o : q_H} (d : Nat) (x1 x2 y0 y1 : Int32) (g : Nat → Nat → Int32) : q_sem (d) mX11_matchPlots 74 [.ref 0, .int x1, .int x2, .retAddr 0, .retAddr 0, .retAddr 0] [.int y0, .int y1] (q_K o g) = (if y0 ≤ y1 then some (none, q_K o g) else q_sem (d) mX11_matchPlots 79 [.ref 0, .int x1, .int x2, .int 0, .retAddr 0, .retAddr 0] [] (q_K o g)) := by
  refine (q_blk (Y := mX11_matchPlots) (q_dcC dX11_matchPlots_74 q_dcN) (show _ = some ((if q_cc .ge y1 y0 = true then 167 else 77), [.ref 0, .int x1, .int x2, .retAddr 0, .retAddr 0, .retAddr 0], []) from rfl)).trans ?_
  by_cases c1 : y0 ≤ y1
  · rw [if_pos (show q_cc .ge y1 y0 = true from decide_eq_true c1)]
    refine Eq.trans ?_ (if_pos c1).symm
    exact k_vret (Y := mX11_matchPlots) dX11_matchPlots_167 rfl
  · rw [if_neg (show ¬ q_cc .ge y1 y0 = true from fun z => c1 (of_decide_eq_true z))]
    refine Eq.trans ?_ (if_neg c1).symm
    refine (q_blk (Y := mX11_matchPlots) (q_dcC dX11_matchPlots_77 (q_dcC dX11_matchPlots_78 q_dcN)) (show _ = some (79, [.ref 0, .int x1, .int x2, .int 0, .retAddr 0, .retAddr 0], []) from rfl)).trans ?_
    rfl
theorem B_X11_matchPlots_42 {o : q_H} (d : Nat) (x1 x2 y0 : Int32) (g : Nat → Nat → Int32) : q_sem (d + 1) mX11_matchPlots 42 [.ref 0, .int x1, .int x2, .retAddr 0, .retAddr 0, .retAddr 0] [.int y0] (q_K o g) = (q_sem d mX7_add 0 [.ref 75, .int x2, .retAddr 0] [] (q_K o g)).bind (fun r => q_sem (d + 1) mX11_matchPlots 54 [.ref 0, .int x1, .int x2, .retAddr 0, .retAddr 0, .retAddr 0] (r.1.toList ++ []) r.2) := by
  refine (q_blk (Y := mX11_matchPlots) (q_dcC dX11_matchPlots_42 (q_dcC dX11_matchPlots_43 q_dcN)) (show _ = some (44, [.ref 0, .int x1, .int x2, .retAddr 0, .retAddr 0, .retAddr 0], [.ref 0]) from rfl)).trans ?_
  refine (k_getr (Y := mX11_matchPlots) dX11_matchPlots_44 rfl rfl ⟨by decide, rfl⟩ (by decide) rfl).trans ?_
  refine (k_getr (Y := mX11_matchPlots) dX11_matchPlots_47 rfl rfl ⟨by decide, rfl⟩ (by decide) rfl).trans ?_
  refine (q_blk (Y := mX11_matchPlots) (q_dcC dX11_matchPlots_50 q_dcN) (show _ = some (51, [.ref 0, .int x1, .int x2, .retAddr 0, .retAddr 0, .retAddr 0], [.int x2, .ref 75]) from rfl)).trans ?_
  exact K_calV (d := d) (Y := mX11_matchPlots) (Z := mX7_add) (vs := [.int x2]) (rest := []) (la := [.ref 75, .int x2, .retAddr 0]) dX11_matchPlots_51 rfl rfl rfl rfl ⟨by decide, rfl⟩ (Nat.le_of_ble_eq_true rfl) rfl (Nat.le_of_ble_eq_true rfl)
theorem B_X11_matchPlots_79 {o : q_H} (d : Nat) (x1 x2 x3 : Int32) (g : Nat → Nat → Int32) : q_sem (d + 1) mX11_matchPlots 79 [.ref 0, .int x1, .int x2, .int x3, .retAddr 0, .retAddr 0] [] (q_K o g) = (q_sem d mX7_size 0 [.ref 75] [] (q_K o g)).bind (fun r => q_sem (d + 1) mX11_matchPlots 90 [.ref 0, .int x1, .int x2, .int x3, .retAddr 0, .retAddr 0] (r.1.toList ++ [.int x3]) r.2) := by
  refine (q_blk (Y := mX11_matchPlots) (q_dcC dX11_matchPlots_79 (q_dcC dX11_matchPlots_80 q_dcN)) (show _ = some (81, [.ref 0, .int x1, .int x2, .int x3, .retAddr 0, .retAddr 0], [.ref 0, .int x3]) from rfl)).trans ?_
  refine (k_getr (Y := mX11_matchPlots) dX11_matchPlots_81 rfl rfl ⟨by decide, rfl⟩ (by decide) rfl).trans ?_
  refine (k_getr (Y := mX11_matchPlots) dX11_matchPlots_84 rfl rfl ⟨by decide, rfl⟩ (by decide) rfl).trans ?_
  exact K_calV (d := d) (Y := mX11_matchPlots) (Z := mX7_size) (vs := []) (rest := [.int x3]) (la := [.ref 75]) dX11_matchPlots_87 rfl rfl rfl rfl ⟨by decide, rfl⟩ (Nat.le_of_ble_eq_true rfl) rfl (Nat.le_of_ble_eq_true rfl)
theorem B_X11_matchPlots_54 {o : q_H} (d : Nat) (x1 x2 y0 : Int32) (g : Nat → Nat → Int32) : q_sem (d) mX11_matchPlots 54 [.ref 0, .int x1, .int x2, .retAddr 0, .retAddr 0, .retAddr 0] [.int y0] (q_K o g) = q_sem (d) mX11_matchPlots 9 [.ref 0, .int x1, .int (x2 + 1), .retAddr 0, .retAddr 0, .retAddr 0] [] (q_K o g) := by
  refine (q_blk (Y := mX11_matchPlots) (q_dcC dX11_matchPlots_54 (q_dcC dX11_matchPlots_55 (q_dcC dX11_matchPlots_58 q_dcN))) (show _ = some (9, [.ref 0, .int x1, .int (x2 + 1), .retAddr 0, .retAddr 0, .retAddr 0], []) from rfl)).trans ?_
  rfl
theorem B_X11_matchPlots_90 {o : q_H} (d : Nat) (x1 x2 x3 y0 y1 : Int32) (g : Nat → Nat → Int32) : q_sem (d + 1) mX11_matchPlots 90 [.ref 0, .int x1, .int x2, .int x3, .retAddr 0, .retAddr 0] [.int y0, .int y1] (q_K o g) = (if y0 ≤ y1 then q_sem (d + 1) mX11_matchPlots 63 [.ref 0, .int x1, .int (x2 + 1), .int x3, .retAddr 0, .retAddr 0] [] (q_K o g) else (q_sem d mX7_get 0 [.ref 73, .int x2, .int 0] [] (q_K o g)).bind (fun r => q_sem (d + 1) mX11_matchPlots 105 [.ref 0, .int x1, .int x2, .int x3, .retAddr 0, .retAddr 0] (r.1.toList ++ []) r.2)) := by
  refine (q_blk (Y := mX11_matchPlots) (q_dcC dX11_matchPlots_90 q_dcN) (show _ = some ((if q_cc .ge y1 y0 = true then 161 else 93), [.ref 0, .int x1, .int x2, .int x3, .retAddr 0, .retAddr 0], []) from rfl)).trans ?_
  by_cases c1 : y0 ≤ y1
  · rw [if_pos (show q_cc .ge y1 y0 = true from decide_eq_true c1)]
    refine Eq.trans ?_ (if_pos c1).symm
    refine (q_blk (Y := mX11_matchPlots) (q_dcC dX11_matchPlots_161 (q_dcC dX11_matchPlots_164 q_dcN)) (show _ = some (63, [.ref 0, .int x1, .int (x2 + 1), .int x3, .retAddr 0, .retAddr 0], []) from rfl)).trans ?_
    rfl
  · rw [if_neg (show ¬ q_cc .ge y1 y0 = true from fun z => c1 (of_decide_eq_true z))]
    refine Eq.trans ?_ (if_neg c1).symm
    refine (q_blk (Y := mX11_matchPlots) (q_dcC dX11_matchPlots_93 q_dcN) (show _ = some (94, [.ref 0, .int x1, .int x2, .int x3, .retAddr 0, .retAddr 0], [.ref 0]) from rfl)).trans ?_
    refine (k_getr (Y := mX11_matchPlots) dX11_matchPlots_94 rfl rfl ⟨by decide, rfl⟩ (by decide) rfl).trans ?_
    refine (k_getr (Y := mX11_matchPlots) dX11_matchPlots_97 rfl rfl ⟨by decide, rfl⟩ (by decide) rfl).trans ?_
    refine (q_blk (Y := mX11_matchPlots) (q_dcC dX11_matchPlots_100 (q_dcC dX11_matchPlots_101 q_dcN)) (show _ = some (102, [.ref 0, .int x1, .int x2, .int x3, .retAddr 0, .retAddr 0], [.int 0, .int x2, .ref 73]) from rfl)).trans ?_
    exact K_calV (d := d) (Y := mX11_matchPlots) (Z := mX7_get) (vs := [.int x2, .int 0]) (rest := []) (la := [.ref 73, .int x2, .int 0]) dX11_matchPlots_102 rfl rfl rfl rfl ⟨by decide, rfl⟩ (Nat.le_of_ble_eq_true rfl) rfl (Nat.le_of_ble_eq_true rfl)
theorem B_X11_matchPlots_63a {o : q_H} (d : Nat) (x1 x2 x3 : Int32) (g : Nat → Nat → Int32) : q_sem (d + 1) mX11_matchPlots 63 [.ref 0, .int x1, .int x2, .int x3, .retAddr 0, .retAddr 0] [] (q_K o g) = (q_sem d mX7_size 0 [.ref 73] [] (q_K o g)).bind (fun r => q_sem (d + 1) mX11_matchPlots 74 [.ref 0, .int x1, .int x2, .int x3, .retAddr 0, .retAddr 0] (r.1.toList ++ [.int x2]) r.2) := by
  refine (q_blk (Y := mX11_matchPlots) (q_dcC dX11_matchPlots_63 (q_dcC dX11_matchPlots_64 q_dcN)) (show _ = some (65, [.ref 0, .int x1, .int x2, .int x3, .retAddr 0, .retAddr 0], [.ref 0, .int x2]) from rfl)).trans ?_
  refine (k_getr (Y := mX11_matchPlots) dX11_matchPlots_65 rfl rfl ⟨by decide, rfl⟩ (by decide) rfl).trans ?_
  refine (k_getr (Y := mX11_matchPlots) dX11_matchPlots_68 rfl rfl ⟨by decide, rfl⟩ (by decide) rfl).trans ?_
  exact K_calV (d := d) (Y := mX11_matchPlots) (Z := mX7_size) (vs := []) (rest := [.int x2]) (la := [.ref 73]) dX11_matchPlots_71 rfl rfl rfl rfl ⟨by decide, rfl⟩ (Nat.le_of_ble_eq_true rfl) rfl (Nat.le_of_ble_eq_true rfl)
theorem B_X11_matchPlots_105 {o : q_H} (d : Nat) (x1 x2 x3 y0 : Int32) (g : Nat → Nat → Int32) : q_sem (d + 1) mX11_matchPlots 105 [.ref 0, .int x1, .int x2, .int x3, .retAddr 0, .retAddr 0] [.int y0] (q_K o g) = (q_sem d mX7_get 0 [.ref 75, .int x3, .int 0] [] (q_K o g)).bind (fun r => q_sem (d + 1) mX11_matchPlots 119 [.ref 0, .int x1, .int x2, .int x3, .int y0, .retAddr 0] (r.1.toList ++ []) r.2) := by
  refine (q_blk (Y := mX11_matchPlots) (q_dcC dX11_matchPlots_105 (q_dcC dX11_matchPlots_107 q_dcN)) (show _ = some (108, [.ref 0, .int x1, .int x2, .int x3, .int y0, .retAddr 0], [.ref 0]) from rfl)).trans ?_
  refine (k_getr (Y := mX11_matchPlots) dX11_matchPlots_108 rfl rfl ⟨by decide, rfl⟩ (by decide) rfl).trans ?_
  refine (k_getr (Y := mX11_matchPlots) dX11_matchPlots_111 rfl rfl ⟨by decide, rfl⟩ (by decide) rfl).trans ?_
  refine (q_blk (Y := mX11_matchPlots) (q_dcC dX11_matchPlots_114 (q_dcC dX11_matchPlots_115 q_dcN)) (show _ = some (116, [.ref 0, .int x1, .int x2, .int x3, .int y0, .retAddr 0], [.int 0, .int x3, .ref 75]) from rfl)).trans ?_
  exact K_calV (d := d) (Y := mX11_matchPlots) (Z := mX7_get) (vs := [.int x3, .int 0]) (rest := []) (la := [.ref 75, .int x3, .int 0]) dX11_matchPlots_116 rfl rfl rfl rfl ⟨by decide, rfl⟩ (Nat.le_of_ble_eq_true rfl) rfl (Nat.le_of_ble_eq_true rfl)
theorem B_X11_matchPlots_74a {o : q_H} (d : Nat) (x1 x2 x3 y0 y1 : Int32) (g : Nat → Nat → Int32) : q_sem (d) mX11_matchPlots 74 [.ref 0, .int x1, .int x2, .int x3, .retAddr 0, .retAddr 0] [.int y0, .int y1] (q_K o g) = (if y0 ≤ y1 then some (none, q_K o g) else q_sem (d) mX11_matchPlots 79 [.ref 0, .int x1, .int x2, .int 0, .retAddr 0, .retAddr 0] [] (q_K o g)) := by
  refine (q_blk (Y := mX11_matchPlots) (q_dcC dX11_matchPlots_74 q_dcN) (show _ = some ((if q_cc .ge y1 y0 = true then 167 else 77), [.ref 0, .int x1, .int x2, .int x3, .retAddr 0, .retAddr 0], []) from rfl)).trans ?_
  by_cases c1 : y0 ≤ y1
  · rw [if_pos (show q_cc .ge y1 y0 = true from decide_eq_true c1)]
    refine Eq.trans ?_ (if_pos c1).symm
    exact k_vret (Y := mX11_matchPlots) dX11_matchPlots_167 rfl
  · rw [if_neg (show ¬ q_cc .ge y1 y0 = true from fun z => c1 (of_decide_eq_true z))]
    refine Eq.trans ?_ (if_neg c1).symm
    refine (q_blk (Y := mX11_matchPlots) (q_dcC dX11_matchPlots_77 (q_dcC dX11_matchPlots_78 q_dcN)) (show _ = some (79, [.ref 0, .int x1, .int x2, .int 0, .retAddr 0, .retAddr 0], []) from rfl)).trans ?_
    rfl
theorem B_X11_matchPlots_119 {o : q_H} (d : Nat) (x1 x2 x3 x4 y0 : Int32) (g : Nat → Nat → Int32) : q_sem (d + 1) mX11_matchPlots 119 [.ref 0, .int x1, .int x2, .int x3, .int x4, .retAddr 0] [.int y0] (q_K o g) = (q_sem d mX10_mayBeFollowed 0 [.ref 1, .int y0, .int x4, .retAddr 0] [] (q_K o g)).bind (fun r => q_sem (d + 1) mX11_matchPlots 132 [.ref 0, .int x1, .int x2, .int x3, .int x4, .int y0] (r.1.toList ++ []) r.2) := by
  refine (q_blk (Y := mX11_matchPlots) (q_dcC dX11_matchPlots_119 (q_dcC dX11_matchPlots_121 q_dcN)) (show _ = some (122, [.ref 0, .int x1, .int x2, .int x3, .int x4, .int y0], [.ref 0]) from rfl)).trans ?_
  refine (k_getr (Y := mX11_matchPlots) dX11_matchPlots_122 rfl rfl ⟨by decide, rfl⟩ (by decide) rfl).trans ?_
  refine (q_blk (Y := mX11_matchPlots) (q_dcC dX11_matchPlots_125 (q_dcC dX11_matchPlots_127 q_dcN)) (show _ = some (129, [.ref 0, .int x1, .int x2, .int x3, .int x4, .int y0], [.int x4, .int y0, .ref 1]) from rfl)).trans ?_
  exact K_calV (d := d) (Y := mX11_matchPlots) (Z := mX10_mayBeFollowed) (vs := [.int y0, .int x4]) (rest := []) (la := [.ref 1, .int y0, .int x4, .retAddr 0]) dX11_matchPlots_129 rfl rfl rfl rfl ⟨by decide, rfl⟩ (Nat.le_of_ble_eq_true rfl) rfl (Nat.le_of_ble_eq_true rfl)
theorem B_X11_matchPlots_132 {o : q_H} (d : Nat) (x1 x2 x3 x4 x5 y0 : Int32) (g : Nat → Nat → Int32) : q_sem (d + 1) mX11_matchPlots 132 [.ref 0, .int x1, .int x2, .int x3, .int x4, .int x5] [.int y0] (q_K o g) = (if y0 = 0 then q_sem (d + 1) mX11_matchPlots 79 [.ref 0, .int x1, .int x2, .int (x3 + 1), .int x4, .int x5] [] (q_K o g) else (q_sem d mX10_plotsApart 0 [.ref 1, .int x5, .int x4] [] (q_K o g)).bind (fun r => q_sem (d + 1) mX11_matchPlots 152 [.ref 0, .int x1, .int x2, .int x3, .int x4, .int x5] (r.1.toList ++ [.int x3, .int x2, .ref 72]) r.2)) := by
  refine (q_blk (Y := mX11_matchPlots) (q_dcC dX11_matchPlots_132 q_dcN) (show _ = some ((if q_cc .eq y0 0 = true then 155 else 135), [.ref 0, .int x1, .int x2, .int x3, .int x4, .int x5], []) from rfl)).trans ?_
  by_cases c1 : y0 = 0
  · rw [if_pos (show q_cc .eq y0 0 = true from decide_eq_true c1)]
    refine Eq.trans ?_ (if_pos c1).symm
    refine (q_blk (Y := mX11_matchPlots) (q_dcC dX11_matchPlots_155 (q_dcC dX11_matchPlots_158 q_dcN)) (show _ = some (79, [.ref 0, .int x1, .int x2, .int (x3 + 1), .int x4, .int x5], []) from rfl)).trans ?_
    rfl
  · rw [if_neg (show ¬ q_cc .eq y0 0 = true from fun z => c1 (of_decide_eq_true z))]
    refine Eq.trans ?_ (if_neg c1).symm
    refine (q_blk (Y := mX11_matchPlots) (q_dcC dX11_matchPlots_135 q_dcN) (show _ = some (136, [.ref 0, .int x1, .int x2, .int x3, .int x4, .int x5], [.ref 0]) from rfl)).trans ?_
    refine (k_getr (Y := mX11_matchPlots) dX11_matchPlots_136 rfl rfl ⟨by decide, rfl⟩ (by decide) rfl).trans ?_
    refine (q_blk (Y := mX11_matchPlots) (q_dcC dX11_matchPlots_139 (q_dcC dX11_matchPlots_140 (q_dcC dX11_matchPlots_141 q_dcN))) (show _ = some (142, [.ref 0, .int x1, .int x2, .int x3, .int x4, .int x5], [.ref 0, .int x3, .int x2, .ref 72]) from rfl)).trans ?_
    refine (k_getr (Y := mX11_matchPlots) dX11_matchPlots_142 rfl rfl ⟨by decide, rfl⟩ (by decide) rfl).trans ?_
    refine (q_blk (Y := mX11_matchPlots) (q_dcC dX11_matchPlots_145 (q_dcC dX11_matchPlots_147 q_dcN)) (show _ = some (149, [.ref 0, .int x1, .int x2, .int x3, .int x4, .int x5], [.int x4, .int x5, .ref 1, .int x3, .int x2, .ref 72]) from rfl)).trans ?_
    exact K_calV (d := d) (Y := mX11_matchPlots) (Z := mX10_plotsApart) (vs := [.int x5, .int x4]) (rest := [.int x3, .int x2, .ref 72]) (la := [.ref 1, .int x5, .int x4]) dX11_matchPlots_149 rfl rfl rfl rfl ⟨by decide, rfl⟩ (Nat.le_of_ble_eq_true rfl) rfl (Nat.le_of_ble_eq_true rfl)
theorem B_X11_matchPlots_79a {o : q_H} (d : Nat) (x1 x2 x3 x4 x5 : Int32) (g : Nat → Nat → Int32) : q_sem (d + 1) mX11_matchPlots 79 [.ref 0, .int x1, .int x2, .int x3, .int x4, .int x5] [] (q_K o g) = (q_sem d mX7_size 0 [.ref 75] [] (q_K o g)).bind (fun r => q_sem (d + 1) mX11_matchPlots 90 [.ref 0, .int x1, .int x2, .int x3, .int x4, .int x5] (r.1.toList ++ [.int x3]) r.2) := by
  refine (q_blk (Y := mX11_matchPlots) (q_dcC dX11_matchPlots_79 (q_dcC dX11_matchPlots_80 q_dcN)) (show _ = some (81, [.ref 0, .int x1, .int x2, .int x3, .int x4, .int x5], [.ref 0, .int x3]) from rfl)).trans ?_
  refine (k_getr (Y := mX11_matchPlots) dX11_matchPlots_81 rfl rfl ⟨by decide, rfl⟩ (by decide) rfl).trans ?_
  refine (k_getr (Y := mX11_matchPlots) dX11_matchPlots_84 rfl rfl ⟨by decide, rfl⟩ (by decide) rfl).trans ?_
  exact K_calV (d := d) (Y := mX11_matchPlots) (Z := mX7_size) (vs := []) (rest := [.int x3]) (la := [.ref 75]) dX11_matchPlots_87 rfl rfl rfl rfl ⟨by decide, rfl⟩ (Nat.le_of_ble_eq_true rfl) rfl (Nat.le_of_ble_eq_true rfl)
theorem B_X11_matchPlots_152 {o : q_H} (d : Nat) (x1 x2 x3 x4 x5 y0 y1 y2 : Int32) (g : Nat → Nat → Int32) : q_sem (d + 1) mX11_matchPlots 152 [.ref 0, .int x1, .int x2, .int x3, .int x4, .int x5] [.int y0, .int y1, .int y2, .ref 72] (q_K o g) = (q_sem d mX1_allow 0 [.ref 72, .int y2, .int y1, .int y0] [] (q_K o g)).bind (fun r => q_sem (d + 1) mX11_matchPlots 155 [.ref 0, .int x1, .int x2, .int x3, .int x4, .int x5] (r.1.toList ++ []) r.2) := by
  exact K_calV (d := d) (Y := mX11_matchPlots) (Z := mX1_allow) (vs := [.int y2, .int y1, .int y0]) (rest := []) (la := [.ref 72, .int y2, .int y1, .int y0]) dX11_matchPlots_152 rfl rfl rfl rfl ⟨by decide, rfl⟩ (Nat.le_of_ble_eq_true rfl) rfl (Nat.le_of_ble_eq_true rfl)
theorem B_X11_matchPlots_90a {o : q_H} (d : Nat) (x1 x2 x3 x4 x5 y0 y1 : Int32) (g : Nat → Nat → Int32) : q_sem (d + 1) mX11_matchPlots 90 [.ref 0, .int x1, .int x2, .int x3, .int x4, .int x5] [.int y0, .int y1] (q_K o g) = (if y0 ≤ y1 then q_sem (d + 1) mX11_matchPlots 63 [.ref 0, .int x1, .int (x2 + 1), .int x3, .int x4, .int x5] [] (q_K o g) else (q_sem d mX7_get 0 [.ref 73, .int x2, .int 0] [] (q_K o g)).bind (fun r => q_sem (d + 1) mX11_matchPlots 105 [.ref 0, .int x1, .int x2, .int x3, .int x4, .int x5] (r.1.toList ++ []) r.2)) := by
  refine (q_blk (Y := mX11_matchPlots) (q_dcC dX11_matchPlots_90 q_dcN) (show _ = some ((if q_cc .ge y1 y0 = true then 161 else 93), [.ref 0, .int x1, .int x2, .int x3, .int x4, .int x5], []) from rfl)).trans ?_
  by_cases c1 : y0 ≤ y1
  · rw [if_pos (show q_cc .ge y1 y0 = true from decide_eq_true c1)]
    refine Eq.trans ?_ (if_pos c1).symm
    refine (q_blk (Y := mX11_matchPlots) (q_dcC dX11_matchPlots_161 (q_dcC dX11_matchPlots_164 q_dcN)) (show _ = some (63, [.ref 0, .int x1, .int (x2 + 1), .int x3, .int x4, .int x5], []) from rfl)).trans ?_
    rfl
  · rw [if_neg (show ¬ q_cc .ge y1 y0 = true from fun z => c1 (of_decide_eq_true z))]
    refine Eq.trans ?_ (if_neg c1).symm
    refine (q_blk (Y := mX11_matchPlots) (q_dcC dX11_matchPlots_93 q_dcN) (show _ = some (94, [.ref 0, .int x1, .int x2, .int x3, .int x4, .int x5], [.ref 0]) from rfl)).trans ?_
    refine (k_getr (Y := mX11_matchPlots) dX11_matchPlots_94 rfl rfl ⟨by decide, rfl⟩ (by decide) rfl).trans ?_
    refine (k_getr (Y := mX11_matchPlots) dX11_matchPlots_97 rfl rfl ⟨by decide, rfl⟩ (by decide) rfl).trans ?_
    refine (q_blk (Y := mX11_matchPlots) (q_dcC dX11_matchPlots_100 (q_dcC dX11_matchPlots_101 q_dcN)) (show _ = some (102, [.ref 0, .int x1, .int x2, .int x3, .int x4, .int x5], [.int 0, .int x2, .ref 73]) from rfl)).trans ?_
    exact K_calV (d := d) (Y := mX11_matchPlots) (Z := mX7_get) (vs := [.int x2, .int 0]) (rest := []) (la := [.ref 73, .int x2, .int 0]) dX11_matchPlots_102 rfl rfl rfl rfl ⟨by decide, rfl⟩ (Nat.le_of_ble_eq_true rfl) rfl (Nat.le_of_ble_eq_true rfl)
theorem B_X11_matchPlots_155 {o : q_H} (d : Nat) (x1 x2 x3 x4 x5 : Int32) (g : Nat → Nat → Int32) : q_sem (d) mX11_matchPlots 155 [.ref 0, .int x1, .int x2, .int x3, .int x4, .int x5] [] (q_K o g) = q_sem (d) mX11_matchPlots 79 [.ref 0, .int x1, .int x2, .int (x3 + 1), .int x4, .int x5] [] (q_K o g) := by
  refine (q_blk (Y := mX11_matchPlots) (q_dcC dX11_matchPlots_155 (q_dcC dX11_matchPlots_158 q_dcN)) (show _ = some (79, [.ref 0, .int x1, .int x2, .int (x3 + 1), .int x4, .int x5], []) from rfl)).trans ?_
  rfl
theorem B_X11_matchPlots_63b {o : q_H} (d : Nat) (x1 x2 x3 x4 x5 : Int32) (g : Nat → Nat → Int32) : q_sem (d + 1) mX11_matchPlots 63 [.ref 0, .int x1, .int x2, .int x3, .int x4, .int x5] [] (q_K o g) = (q_sem d mX7_size 0 [.ref 73] [] (q_K o g)).bind (fun r => q_sem (d + 1) mX11_matchPlots 74 [.ref 0, .int x1, .int x2, .int x3, .int x4, .int x5] (r.1.toList ++ [.int x2]) r.2) := by
  refine (q_blk (Y := mX11_matchPlots) (q_dcC dX11_matchPlots_63 (q_dcC dX11_matchPlots_64 q_dcN)) (show _ = some (65, [.ref 0, .int x1, .int x2, .int x3, .int x4, .int x5], [.ref 0, .int x2]) from rfl)).trans ?_
  refine (k_getr (Y := mX11_matchPlots) dX11_matchPlots_65 rfl rfl ⟨by decide, rfl⟩ (by decide) rfl).trans ?_
  refine (k_getr (Y := mX11_matchPlots) dX11_matchPlots_68 rfl rfl ⟨by decide, rfl⟩ (by decide) rfl).trans ?_
  exact K_calV (d := d) (Y := mX11_matchPlots) (Z := mX7_size) (vs := []) (rest := [.int x2]) (la := [.ref 73]) dX11_matchPlots_71 rfl rfl rfl rfl ⟨by decide, rfl⟩ (Nat.le_of_ble_eq_true rfl) rfl (Nat.le_of_ble_eq_true rfl)
theorem B_X11_matchPlots_105a {o : q_H} (d : Nat) (x1 x2 x3 x4 x5 y0 : Int32) (g : Nat → Nat → Int32) : q_sem (d + 1) mX11_matchPlots 105 [.ref 0, .int x1, .int x2, .int x3, .int x4, .int x5] [.int y0] (q_K o g) = (q_sem d mX7_get 0 [.ref 75, .int x3, .int 0] [] (q_K o g)).bind (fun r => q_sem (d + 1) mX11_matchPlots 119 [.ref 0, .int x1, .int x2, .int x3, .int y0, .int x5] (r.1.toList ++ []) r.2) := by
  refine (q_blk (Y := mX11_matchPlots) (q_dcC dX11_matchPlots_105 (q_dcC dX11_matchPlots_107 q_dcN)) (show _ = some (108, [.ref 0, .int x1, .int x2, .int x3, .int y0, .int x5], [.ref 0]) from rfl)).trans ?_
  refine (k_getr (Y := mX11_matchPlots) dX11_matchPlots_108 rfl rfl ⟨by decide, rfl⟩ (by decide) rfl).trans ?_
  refine (k_getr (Y := mX11_matchPlots) dX11_matchPlots_111 rfl rfl ⟨by decide, rfl⟩ (by decide) rfl).trans ?_
  refine (q_blk (Y := mX11_matchPlots) (q_dcC dX11_matchPlots_114 (q_dcC dX11_matchPlots_115 q_dcN)) (show _ = some (116, [.ref 0, .int x1, .int x2, .int x3, .int y0, .int x5], [.int 0, .int x3, .ref 75]) from rfl)).trans ?_
  exact K_calV (d := d) (Y := mX11_matchPlots) (Z := mX7_get) (vs := [.int x3, .int 0]) (rest := []) (la := [.ref 75, .int x3, .int 0]) dX11_matchPlots_116 rfl rfl rfl rfl ⟨by decide, rfl⟩ (Nat.le_of_ble_eq_true rfl) rfl (Nat.le_of_ble_eq_true rfl)
theorem B_X11_matchPlots_74b {o : q_H} (d : Nat) (x1 x2 x3 x4 x5 y0 y1 : Int32) (g : Nat → Nat → Int32) : q_sem (d) mX11_matchPlots 74 [.ref 0, .int x1, .int x2, .int x3, .int x4, .int x5] [.int y0, .int y1] (q_K o g) = (if y0 ≤ y1 then some (none, q_K o g) else q_sem (d) mX11_matchPlots 79 [.ref 0, .int x1, .int x2, .int 0, .int x4, .int x5] [] (q_K o g)) := by
  refine (q_blk (Y := mX11_matchPlots) (q_dcC dX11_matchPlots_74 q_dcN) (show _ = some ((if q_cc .ge y1 y0 = true then 167 else 77), [.ref 0, .int x1, .int x2, .int x3, .int x4, .int x5], []) from rfl)).trans ?_
  by_cases c1 : y0 ≤ y1
  · rw [if_pos (show q_cc .ge y1 y0 = true from decide_eq_true c1)]
    refine Eq.trans ?_ (if_pos c1).symm
    exact k_vret (Y := mX11_matchPlots) dX11_matchPlots_167 rfl
  · rw [if_neg (show ¬ q_cc .ge y1 y0 = true from fun z => c1 (of_decide_eq_true z))]
    refine Eq.trans ?_ (if_neg c1).symm
    refine (q_blk (Y := mX11_matchPlots) (q_dcC dX11_matchPlots_77 (q_dcC dX11_matchPlots_78 q_dcN)) (show _ = some (79, [.ref 0, .int x1, .int x2, .int 0, .int x4, .int x5], []) from rfl)).trans ?_
    rfl
theorem B_X11_matchPlots_119a {o : q_H} (d : Nat) (x1 x2 x3 x4 x5 y0 : Int32) (g : Nat → Nat → Int32) : q_sem (d + 1) mX11_matchPlots 119 [.ref 0, .int x1, .int x2, .int x3, .int x4, .int x5] [.int y0] (q_K o g) = (q_sem d mX10_mayBeFollowed 0 [.ref 1, .int y0, .int x4, .retAddr 0] [] (q_K o g)).bind (fun r => q_sem (d + 1) mX11_matchPlots 132 [.ref 0, .int x1, .int x2, .int x3, .int x4, .int y0] (r.1.toList ++ []) r.2) := by
  refine (q_blk (Y := mX11_matchPlots) (q_dcC dX11_matchPlots_119 (q_dcC dX11_matchPlots_121 q_dcN)) (show _ = some (122, [.ref 0, .int x1, .int x2, .int x3, .int x4, .int y0], [.ref 0]) from rfl)).trans ?_
  refine (k_getr (Y := mX11_matchPlots) dX11_matchPlots_122 rfl rfl ⟨by decide, rfl⟩ (by decide) rfl).trans ?_
  refine (q_blk (Y := mX11_matchPlots) (q_dcC dX11_matchPlots_125 (q_dcC dX11_matchPlots_127 q_dcN)) (show _ = some (129, [.ref 0, .int x1, .int x2, .int x3, .int x4, .int y0], [.int x4, .int y0, .ref 1]) from rfl)).trans ?_
  exact K_calV (d := d) (Y := mX11_matchPlots) (Z := mX10_mayBeFollowed) (vs := [.int y0, .int x4]) (rest := []) (la := [.ref 1, .int y0, .int x4, .retAddr 0]) dX11_matchPlots_129 rfl rfl rfl rfl ⟨by decide, rfl⟩ (Nat.le_of_ble_eq_true rfl) rfl (Nat.le_of_ble_eq_true rfl)
theorem B_X11_judge_0 {o : q_H} (d : Nat) (x1 x2 : Int32) (g : Nat → Nat → Int32) : q_sem (d + 1) mX11_judge 0 [.ref 0, .int x1, .int x2, .retAddr 0, .retAddr 0] [] (q_K o g) = (q_sem d mX11_arePlots 0 [.ref 0, .int x1] [] (q_K o g)).bind (fun r => q_sem (d + 1) mX11_judge 5 [.ref 0, .int x1, .int x2, .retAddr 0, .retAddr 0] (r.1.toList ++ []) r.2) := by
  refine (q_blk (Y := mX11_judge) (q_dcC dX11_judge_0 (q_dcC dX11_judge_1 q_dcN)) (show _ = some (2, [.ref 0, .int x1, .int x2, .retAddr 0, .retAddr 0], [.int x1, .ref 0]) from rfl)).trans ?_
  exact K_calV (d := d) (Y := mX11_judge) (Z := mX11_arePlots) (vs := [.int x1]) (rest := []) (la := [.ref 0, .int x1]) dX11_judge_2 rfl rfl rfl rfl ⟨by decide, rfl⟩ (Nat.le_of_ble_eq_true rfl) rfl (Nat.le_of_ble_eq_true rfl)
theorem B_X11_judge_5 {o : q_H} (d : Nat) (x1 x2 y0 : Int32) (g : Nat → Nat → Int32) : q_sem (d + 1) mX11_judge 5 [.ref 0, .int x1, .int x2, .retAddr 0, .retAddr 0] [.int y0] (q_K o g) = (if y0 = 0 then (q_sem d mX11_finding 0 [.ref 0, .int 1] [] (q_K o g)).bind (fun r => q_sem (d + 1) mX11_judge 13 [.ref 0, .int x1, .int x2, .retAddr 0, .retAddr 0] (r.1.toList ++ []) r.2) else (q_sem d mX6_wanting 0 [.ref 69, .int x2] [] (q_K o g)).bind (fun r => q_sem (d + 1) mX11_judge 22 [.ref 0, .int x1, .int x2, .retAddr 0, .retAddr 0] (r.1.toList ++ []) r.2)) := by
  refine (q_blk (Y := mX11_judge) (q_dcC dX11_judge_5 q_dcN) (show _ = some ((if q_cc .ne y0 0 = true then 14 else 8), [.ref 0, .int x1, .int x2, .retAddr 0, .retAddr 0], []) from rfl)).trans ?_
  by_cases c1 : y0 = 0
  · rw [if_neg (show ¬ q_cc .ne y0 0 = true from fun z => (of_decide_eq_true z : ¬ y0 = 0) c1)]
    refine Eq.trans ?_ (if_pos c1).symm
    refine (q_blk (Y := mX11_judge) (q_dcC dX11_judge_8 (q_dcC dX11_judge_9 q_dcN)) (show _ = some (10, [.ref 0, .int x1, .int x2, .retAddr 0, .retAddr 0], [.int 1, .ref 0]) from rfl)).trans ?_
    exact K_calV (d := d) (Y := mX11_judge) (Z := mX11_finding) (vs := [.int 1]) (rest := []) (la := [.ref 0, .int 1]) dX11_judge_10 rfl rfl rfl rfl ⟨by decide, rfl⟩ (Nat.le_of_ble_eq_true rfl) rfl (Nat.le_of_ble_eq_true rfl)
  · rw [if_pos (show q_cc .ne y0 0 = true from decide_eq_true c1)]
    refine Eq.trans ?_ (if_neg c1).symm
    refine (q_blk (Y := mX11_judge) (q_dcC dX11_judge_14 q_dcN) (show _ = some (15, [.ref 0, .int x1, .int x2, .retAddr 0, .retAddr 0], [.ref 0]) from rfl)).trans ?_
    refine (k_getr (Y := mX11_judge) dX11_judge_15 rfl rfl ⟨by decide, rfl⟩ (by decide) rfl).trans ?_
    refine (q_blk (Y := mX11_judge) (q_dcC dX11_judge_18 q_dcN) (show _ = some (19, [.ref 0, .int x1, .int x2, .retAddr 0, .retAddr 0], [.int x2, .ref 69]) from rfl)).trans ?_
    exact K_calV (d := d) (Y := mX11_judge) (Z := mX6_wanting) (vs := [.int x2]) (rest := []) (la := [.ref 69, .int x2]) dX11_judge_19 rfl rfl rfl rfl ⟨by decide, rfl⟩ (Nat.le_of_ble_eq_true rfl) rfl (Nat.le_of_ble_eq_true rfl)
theorem B_X11_judge_13 {o : q_H} (d : Nat) (x1 x2 y0 : Int32) (g : Nat → Nat → Int32) : q_sem (d) mX11_judge 13 [.ref 0, .int x1, .int x2, .retAddr 0, .retAddr 0] [.int y0] (q_K o g) = some (some (.int y0), q_K o g) := by
  exact k_iret (Y := mX11_judge) dX11_judge_13 rfl
theorem B_X11_judge_22 {o : q_H} (d : Nat) (x1 x2 y0 : Int32) (g : Nat → Nat → Int32) : q_sem (d + 1) mX11_judge 22 [.ref 0, .int x1, .int x2, .retAddr 0, .retAddr 0] [.int y0] (q_K o g) = (if y0 = 0 then (q_sem d mJ6_bitCount_0f7a4 0 [.int x1] [] (q_K o g)).bind (fun r => q_sem (d + 1) mX11_judge 37 [.ref 0, .int x1, .int x2, .int y0, .retAddr 0] (r.1.toList ++ []) r.2) else (q_sem d mX11_finding 0 [.ref 0, .int y0] [] (q_K o g)).bind (fun r => q_sem (d + 1) mX11_judge 32 [.ref 0, .int x1, .int x2, .int y0, .retAddr 0] (r.1.toList ++ []) r.2)) := by
  refine (q_blk (Y := mX11_judge) (q_dcC dX11_judge_22 (q_dcC dX11_judge_23 (q_dcC dX11_judge_24 q_dcN))) (show _ = some ((if q_cc .eq y0 0 = true then 33 else 27), [.ref 0, .int x1, .int x2, .int y0, .retAddr 0], []) from rfl)).trans ?_
  by_cases c1 : y0 = 0
  · rw [if_pos (show q_cc .eq y0 0 = true from decide_eq_true c1)]
    refine Eq.trans ?_ (if_pos c1).symm
    refine (q_blk (Y := mX11_judge) (q_dcC dX11_judge_33 q_dcN) (show _ = some (34, [.ref 0, .int x1, .int x2, .int y0, .retAddr 0], [.int x1]) from rfl)).trans ?_
    exact K_calS (d := d) (Y := mX11_judge) (Z := mJ6_bitCount_0f7a4) (vs := [.int x1]) (rest := []) (la := [.int x1]) dX11_judge_34 rfl rfl rfl rfl (Nat.le_of_ble_eq_true rfl) rfl (Nat.le_of_ble_eq_true rfl)
  · rw [if_neg (show ¬ q_cc .eq y0 0 = true from fun z => c1 (of_decide_eq_true z))]
    refine Eq.trans ?_ (if_neg c1).symm
    refine (q_blk (Y := mX11_judge) (q_dcC dX11_judge_27 (q_dcC dX11_judge_28 q_dcN)) (show _ = some (29, [.ref 0, .int x1, .int x2, .int y0, .retAddr 0], [.int y0, .ref 0]) from rfl)).trans ?_
    exact K_calV (d := d) (Y := mX11_judge) (Z := mX11_finding) (vs := [.int y0]) (rest := []) (la := [.ref 0, .int y0]) dX11_judge_29 rfl rfl rfl rfl ⟨by decide, rfl⟩ (Nat.le_of_ble_eq_true rfl) rfl (Nat.le_of_ble_eq_true rfl)
theorem B_X11_judge_37 {o : q_H} (d : Nat) (x1 x2 x3 y0 : Int32) (g : Nat → Nat → Int32) : q_sem (d + 1) mX11_judge 37 [.ref 0, .int x1, .int x2, .int x3, .retAddr 0] [.int y0] (q_K o g) = (q_sem d mX11_within 0 [.int y0, .int 1, .int 9] [] (q_K o g)).bind (fun r => q_sem (d + 1) mX11_judge 47 [.ref 0, .int x1, .int x2, .int x3, .int y0] (r.1.toList ++ []) r.2) := by
  refine (q_blk (Y := mX11_judge) (q_dcC dX11_judge_37 (q_dcC dX11_judge_39 (q_dcC dX11_judge_41 (q_dcC dX11_judge_42 q_dcN)))) (show _ = some (44, [.ref 0, .int x1, .int x2, .int x3, .int y0], [.int 9, .int 1, .int y0]) from rfl)).trans ?_
  exact K_calS (d := d) (Y := mX11_judge) (Z := mX11_within) (vs := [.int y0, .int 1, .int 9]) (rest := []) (la := [.int y0, .int 1, .int 9]) dX11_judge_44 rfl rfl rfl rfl (Nat.le_of_ble_eq_true rfl) rfl (Nat.le_of_ble_eq_true rfl)
theorem B_X11_judge_32 {o : q_H} (d : Nat) (x1 x2 x3 y0 : Int32) (g : Nat → Nat → Int32) : q_sem (d) mX11_judge 32 [.ref 0, .int x1, .int x2, .int x3, .retAddr 0] [.int y0] (q_K o g) = some (some (.int y0), q_K o g) := by
  exact k_iret (Y := mX11_judge) dX11_judge_32 rfl
theorem B_X11_judge_47 {o : q_H} (d : Nat) (x1 x2 x3 x4 y0 : Int32) (g : Nat → Nat → Int32) : q_sem (d + 1) mX11_judge 47 [.ref 0, .int x1, .int x2, .int x3, .int x4] [.int y0] (q_K o g) = (if y0 = 0 then (q_sem d mX11_finding 0 [.ref 0, .int 5] [] (q_K o g)).bind (fun r => q_sem (d + 1) mX11_judge 68 [.ref 0, .int x1, .int x2, .int x3, .int x4] (r.1.toList ++ []) r.2) else (q_sem d mX6_size 0 [.ref 69, .int x2] [] (q_K o g)).bind (fun r => q_sem (d + 1) mX11_judge 58 [.ref 0, .int x1, .int x2, .int x3, .int x4] (r.1.toList ++ []) r.2)) := by
  refine (q_blk (Y := mX11_judge) (q_dcC dX11_judge_47 q_dcN) (show _ = some ((if q_cc .eq y0 0 = true then 63 else 50), [.ref 0, .int x1, .int x2, .int x3, .int x4], []) from rfl)).trans ?_
  by_cases c1 : y0 = 0
  · rw [if_pos (show q_cc .eq y0 0 = true from decide_eq_true c1)]
    refine Eq.trans ?_ (if_pos c1).symm
    refine (q_blk (Y := mX11_judge) (q_dcC dX11_judge_63 (q_dcC dX11_judge_64 q_dcN)) (show _ = some (65, [.ref 0, .int x1, .int x2, .int x3, .int x4], [.int 5, .ref 0]) from rfl)).trans ?_
    exact K_calV (d := d) (Y := mX11_judge) (Z := mX11_finding) (vs := [.int 5]) (rest := []) (la := [.ref 0, .int 5]) dX11_judge_65 rfl rfl rfl rfl ⟨by decide, rfl⟩ (Nat.le_of_ble_eq_true rfl) rfl (Nat.le_of_ble_eq_true rfl)
  · rw [if_neg (show ¬ q_cc .eq y0 0 = true from fun z => c1 (of_decide_eq_true z))]
    refine Eq.trans ?_ (if_neg c1).symm
    refine (q_blk (Y := mX11_judge) (q_dcC dX11_judge_50 q_dcN) (show _ = some (51, [.ref 0, .int x1, .int x2, .int x3, .int x4], [.ref 0]) from rfl)).trans ?_
    refine (k_getr (Y := mX11_judge) dX11_judge_51 rfl rfl ⟨by decide, rfl⟩ (by decide) rfl).trans ?_
    refine (q_blk (Y := mX11_judge) (q_dcC dX11_judge_54 q_dcN) (show _ = some (55, [.ref 0, .int x1, .int x2, .int x3, .int x4], [.int x2, .ref 69]) from rfl)).trans ?_
    exact K_calV (d := d) (Y := mX11_judge) (Z := mX6_size) (vs := [.int x2]) (rest := []) (la := [.ref 69, .int x2]) dX11_judge_55 rfl rfl rfl rfl ⟨by decide, rfl⟩ (Nat.le_of_ble_eq_true rfl) rfl (Nat.le_of_ble_eq_true rfl)
theorem B_X11_judge_68 {o : q_H} (d : Nat) (x1 x2 x3 x4 y0 : Int32) (g : Nat → Nat → Int32) : q_sem (d) mX11_judge 68 [.ref 0, .int x1, .int x2, .int x3, .int x4] [.int y0] (q_K o g) = some (some (.int y0), q_K o g) := by
  exact k_iret (Y := mX11_judge) dX11_judge_68 rfl
theorem B_X11_judge_58 {o : q_H} (d : Nat) (x1 x2 x3 x4 y0 : Int32) (g : Nat → Nat → Int32) : q_sem (d + 1) mX11_judge 58 [.ref 0, .int x1, .int x2, .int x3, .int x4] [.int y0] (q_K o g) = (if y0 = x4 then (q_sem d mX11_tracksOf 0 [.ref 0, .int x1, .int x2, .retAddr 0, .retAddr 0, .retAddr 0, .retAddr 0, .retAddr 0] [] (q_K o g)).bind (fun r => q_sem (d + 1) mX11_judge 75 [.ref 0, .int x1, .int x2, .int x3, .int x4] (r.1.toList ++ []) r.2) else (q_sem d mX11_finding 0 [.ref 0, .int 5] [] (q_K o g)).bind (fun r => q_sem (d + 1) mX11_judge 68 [.ref 0, .int x1, .int x2, .int x3, .int x4] (r.1.toList ++ []) r.2)) := by
  refine (q_blk (Y := mX11_judge) (q_dcC dX11_judge_58 (q_dcC dX11_judge_60 q_dcN)) (show _ = some ((if q_cc .eq y0 x4 = true then 69 else 63), [.ref 0, .int x1, .int x2, .int x3, .int x4], []) from rfl)).trans ?_
  by_cases c1 : y0 = x4
  · rw [if_pos (show q_cc .eq y0 x4 = true from decide_eq_true c1)]
    refine Eq.trans ?_ (if_pos c1).symm
    refine (q_blk (Y := mX11_judge) (q_dcC dX11_judge_69 (q_dcC dX11_judge_70 (q_dcC dX11_judge_71 q_dcN))) (show _ = some (72, [.ref 0, .int x1, .int x2, .int x3, .int x4], [.int x2, .int x1, .ref 0]) from rfl)).trans ?_
    exact K_calV (d := d) (Y := mX11_judge) (Z := mX11_tracksOf) (vs := [.int x1, .int x2]) (rest := []) (la := [.ref 0, .int x1, .int x2, .retAddr 0, .retAddr 0, .retAddr 0, .retAddr 0, .retAddr 0]) dX11_judge_72 rfl rfl rfl rfl ⟨by decide, rfl⟩ (Nat.le_of_ble_eq_true rfl) rfl (Nat.le_of_ble_eq_true rfl)
  · rw [if_neg (show ¬ q_cc .eq y0 x4 = true from fun z => c1 (of_decide_eq_true z))]
    refine Eq.trans ?_ (if_neg c1).symm
    refine (q_blk (Y := mX11_judge) (q_dcC dX11_judge_63 (q_dcC dX11_judge_64 q_dcN)) (show _ = some (65, [.ref 0, .int x1, .int x2, .int x3, .int x4], [.int 5, .ref 0]) from rfl)).trans ?_
    exact K_calV (d := d) (Y := mX11_judge) (Z := mX11_finding) (vs := [.int 5]) (rest := []) (la := [.ref 0, .int 5]) dX11_judge_65 rfl rfl rfl rfl ⟨by decide, rfl⟩ (Nat.le_of_ble_eq_true rfl) rfl (Nat.le_of_ble_eq_true rfl)
theorem B_X11_judge_75 {o : q_H} (d : Nat) (x1 x2 x3 x4 y0 : Int32) (g : Nat → Nat → Int32) : q_sem (d) mX11_judge 75 [.ref 0, .int x1, .int x2, .int x3, .int x4] [.int y0] (q_K o g) = some (some (.int y0), q_K o g) := by
  exact k_iret (Y := mX11_judge) dX11_judge_75 rfl
theorem B_X11_tracksOf_0 {o : q_H} (d : Nat) (x1 x2 : Int32) (g : Nat → Nat → Int32) : q_sem (d) mX11_tracksOf 0 [.ref 0, .int x1, .int x2, .retAddr 0, .retAddr 0, .retAddr 0, .retAddr 0, .retAddr 0] [] (q_K o g) = q_sem (d) mX11_tracksOf 11 [.ref 0, .int x1, .int x2, .int 0, .int 0, .int 0, .int 0, .retAddr 0] [] (q_K o g) := by
  refine (q_blk (Y := mX11_tracksOf) (q_dcC dX11_tracksOf_0 (q_dcC dX11_tracksOf_1 (q_dcC dX11_tracksOf_2 (q_dcC dX11_tracksOf_3 (q_dcC dX11_tracksOf_5 (q_dcC dX11_tracksOf_6 (q_dcC dX11_tracksOf_8 (q_dcC dX11_tracksOf_9 q_dcN)))))))) (show _ = some (11, [.ref 0, .int x1, .int x2, .int 0, .int 0, .int 0, .int 0, .retAddr 0], []) from rfl)).trans ?_
  rfl
theorem B_X11_tracksOf_11 {o : q_H} (d : Nat) (x1 x2 x3 x4 x5 x6 : Int32) (g : Nat → Nat → Int32) : q_sem (d + 1) mX11_tracksOf 11 [.ref 0, .int x1, .int x2, .int x3, .int x4, .int x5, .int x6, .retAddr 0] [] (q_K o g) = (q_sem d mX7_size 0 [.ref 6] [] (q_K o g)).bind (fun r => q_sem (d + 1) mX11_tracksOf 23 [.ref 0, .int x1, .int x2, .int x3, .int x4, .int x5, .int x6, .retAddr 0] (r.1.toList ++ [.int x6]) r.2) := by
  refine (q_blk (Y := mX11_tracksOf) (q_dcC dX11_tracksOf_11 (q_dcC dX11_tracksOf_13 q_dcN)) (show _ = some (14, [.ref 0, .int x1, .int x2, .int x3, .int x4, .int x5, .int x6, .retAddr 0], [.ref 0, .int x6]) from rfl)).trans ?_
  refine (k_getr (Y := mX11_tracksOf) dX11_tracksOf_14 rfl rfl ⟨by decide, rfl⟩ (by decide) rfl).trans ?_
  refine (k_getr (Y := mX11_tracksOf) dX11_tracksOf_17 rfl rfl ⟨by decide, rfl⟩ (by decide) rfl).trans ?_
  exact K_calV (d := d) (Y := mX11_tracksOf) (Z := mX7_size) (vs := []) (rest := [.int x6]) (la := [.ref 6]) dX11_tracksOf_20 rfl rfl rfl rfl ⟨by decide, rfl⟩ (Nat.le_of_ble_eq_true rfl) rfl (Nat.le_of_ble_eq_true rfl)
theorem B_X11_tracksOf_23 {o : q_H} (d : Nat) (x1 x2 x3 x4 x5 x6 y0 y1 : Int32) (g : Nat → Nat → Int32) : q_sem (d + 1) mX11_tracksOf 23 [.ref 0, .int x1, .int x2, .int x3, .int x4, .int x5, .int x6, .retAddr 0] [.int y0, .int y1] (q_K o g) = (if y0 ≤ y1 then some (some (.int x3), q_K o g) else (q_sem d mX11_isIn 0 [.int x1, .int x6] [] (q_K o g)).bind (fun r => q_sem (d + 1) mX11_tracksOf 32 [.ref 0, .int x1, .int x2, .int x3, .int x4, .int x5, .int x6, .retAddr 0] (r.1.toList ++ []) r.2)) := by
  refine (q_blk (Y := mX11_tracksOf) (q_dcC dX11_tracksOf_23 q_dcN) (show _ = some ((if q_cc .ge y1 y0 = true then 110 else 26), [.ref 0, .int x1, .int x2, .int x3, .int x4, .int x5, .int x6, .retAddr 0], []) from rfl)).trans ?_
  by_cases c1 : y0 ≤ y1
  · rw [if_pos (show q_cc .ge y1 y0 = true from decide_eq_true c1)]
    refine Eq.trans ?_ (if_pos c1).symm
    refine (q_blk (Y := mX11_tracksOf) (q_dcC dX11_tracksOf_110 q_dcN) (show _ = some (111, [.ref 0, .int x1, .int x2, .int x3, .int x4, .int x5, .int x6, .retAddr 0], [.int x3]) from rfl)).trans ?_
    exact k_iret (Y := mX11_tracksOf) dX11_tracksOf_111 rfl
  · rw [if_neg (show ¬ q_cc .ge y1 y0 = true from fun z => c1 (of_decide_eq_true z))]
    refine Eq.trans ?_ (if_neg c1).symm
    refine (q_blk (Y := mX11_tracksOf) (q_dcC dX11_tracksOf_26 (q_dcC dX11_tracksOf_27 q_dcN)) (show _ = some (29, [.ref 0, .int x1, .int x2, .int x3, .int x4, .int x5, .int x6, .retAddr 0], [.int x6, .int x1]) from rfl)).trans ?_
    exact K_calS (d := d) (Y := mX11_tracksOf) (Z := mX11_isIn) (vs := [.int x1, .int x6]) (rest := []) (la := [.int x1, .int x6]) dX11_tracksOf_29 rfl rfl rfl rfl (Nat.le_of_ble_eq_true rfl) rfl (Nat.le_of_ble_eq_true rfl)
theorem B_X11_tracksOf_32 {o : q_H} (d : Nat) (x1 x2 x3 x4 x5 x6 y0 : Int32) (g : Nat → Nat → Int32) : q_sem (d + 1) mX11_tracksOf 32 [.ref 0, .int x1, .int x2, .int x3, .int x4, .int x5, .int x6, .retAddr 0] [.int y0] (q_K o g) = (if y0 = 0 then q_sem (d + 1) mX11_tracksOf 11 [.ref 0, .int x1, .int x2, .int x3, .int x4, .int x5, .int (x6 + 1), .retAddr 0] [] (q_K o g) else (q_sem d mX6_get 0 [.ref 69, .int x2, .int x4] [] (q_K o g)).bind (fun r => q_sem (d + 1) mX11_tracksOf 51 [.ref 0, .int x1, .int x2, .int x3, .int (x4 + 1), .int x5, .int x6, .retAddr 0] (r.1.toList ++ []) r.2)) := by
  refine (q_blk (Y := mX11_tracksOf) (q_dcC dX11_tracksOf_32 q_dcN) (show _ = some ((if q_cc .ne y0 0 = true then 38 else 35), [.ref 0, .int x1, .int x2, .int x3, .int x4, .int x5, .int x6, .retAddr 0], []) from rfl)).trans ?_
  by_cases c1 : y0 = 0
  · rw [if_neg (show ¬ q_cc .ne y0 0 = true from fun z => (of_decide_eq_true z : ¬ y0 = 0) c1)]
    refine Eq.trans ?_ (if_pos c1).symm
    refine (q_blk (Y := mX11_tracksOf) (q_dcC dX11_tracksOf_35 q_dcN) (show _ = some (104, [.ref 0, .int x1, .int x2, .int x3, .int x4, .int x5, .int x6, .retAddr 0], []) from rfl)).trans ?_
    refine (q_blk (Y := mX11_tracksOf) (q_dcC dX11_tracksOf_104 (q_dcC dX11_tracksOf_107 q_dcN)) (show _ = some (11, [.ref 0, .int x1, .int x2, .int x3, .int x4, .int x5, .int (x6 + 1), .retAddr 0], []) from rfl)).trans ?_
    rfl
  · rw [if_pos (show q_cc .ne y0 0 = true from decide_eq_true c1)]
    refine Eq.trans ?_ (if_neg c1).symm
    refine (q_blk (Y := mX11_tracksOf) (q_dcC dX11_tracksOf_38 q_dcN) (show _ = some (39, [.ref 0, .int x1, .int x2, .int x3, .int x4, .int x5, .int x6, .retAddr 0], [.ref 0]) from rfl)).trans ?_
    refine (k_getr (Y := mX11_tracksOf) dX11_tracksOf_39 rfl rfl ⟨by decide, rfl⟩ (by decide) rfl).trans ?_
    refine (q_blk (Y := mX11_tracksOf) (q_dcC dX11_tracksOf_42 (q_dcC dX11_tracksOf_43 (q_dcC dX11_tracksOf_45 q_dcN))) (show _ = some (48, [.ref 0, .int x1, .int x2, .int x3, .int (x4 + 1), .int x5, .int x6, .retAddr 0], [.int x4, .int x2, .ref 69]) from rfl)).trans ?_
    exact K_calV (d := d) (Y := mX11_tracksOf) (Z := mX6_get) (vs := [.int x2, .int x4]) (rest := []) (la := [.ref 69, .int x2, .int x4]) dX11_tracksOf_48 rfl rfl rfl rfl ⟨by decide, rfl⟩ (Nat.le_of_ble_eq_true rfl) rfl (Nat.le_of_ble_eq_true rfl)
theorem B_X11_tracksOf_51 {o : q_H} (d : Nat) (x1 x2 x3 x4 x5 x6 y0 : Int32) (g : Nat → Nat → Int32) : q_sem (d + 1) mX11_tracksOf 51 [.ref 0, .int x1, .int x2, .int x3, .int x4, .int x5, .int x6, .retAddr 0] [.int y0] (q_K o g) = (if y0 = (-1) then q_sem (d + 1) mX11_tracksOf 11 [.ref 0, .int x1, .int x2, .int (x3 + 1), .int x4, .int x5, .int (x6 + 1), .int y0] [] (q_K o g) else (q_sem d mX11_isIn 0 [.int (x1 &&& (x5 ^^^ (-1))), .int y0] [] (q_K o g)).bind (fun r => q_sem (d + 1) mX11_tracksOf 76 [.ref 0, .int x1, .int x2, .int x3, .int x4, .int x5, .int x6, .int y0] (r.1.toList ++ []) r.2)) := by
  refine (q_blk (Y := mX11_tracksOf) (q_dcC dX11_tracksOf_51 (q_dcC dX11_tracksOf_53 (q_dcC dX11_tracksOf_55 (q_dcC dX11_tracksOf_56 q_dcN)))) (show _ = some ((if q_cc .ne y0 (-1) = true then 65 else 59), [.ref 0, .int x1, .int x2, .int x3, .int x4, .int x5, .int x6, .int y0], []) from rfl)).trans ?_
  by_cases c1 : y0 = (-1)
  · rw [if_neg (show ¬ q_cc .ne y0 (-1) = true from fun z => (of_decide_eq_true z : ¬ y0 = (-1)) c1)]
    refine Eq.trans ?_ (if_pos c1).symm
    refine (q_blk (Y := mX11_tracksOf) (q_dcC dX11_tracksOf_59 (q_dcC dX11_tracksOf_62 q_dcN)) (show _ = some (104, [.ref 0, .int x1, .int x2, .int (x3 + 1), .int x4, .int x5, .int x6, .int y0], []) from rfl)).trans ?_
    refine (q_blk (Y := mX11_tracksOf) (q_dcC dX11_tracksOf_104 (q_dcC dX11_tracksOf_107 q_dcN)) (show _ = some (11, [.ref 0, .int x1, .int x2, .int (x3 + 1), .int x4, .int x5, .int (x6 + 1), .int y0], []) from rfl)).trans ?_
    rfl
  · rw [if_pos (show q_cc .ne y0 (-1) = true from decide_eq_true c1)]
    refine Eq.trans ?_ (if_neg c1).symm
    refine (q_blk (Y := mX11_tracksOf) (q_dcC dX11_tracksOf_65 (q_dcC dX11_tracksOf_66 (q_dcC dX11_tracksOf_68 (q_dcC dX11_tracksOf_69 (q_dcC dX11_tracksOf_70 (q_dcC dX11_tracksOf_71 q_dcN)))))) (show _ = some (73, [.ref 0, .int x1, .int x2, .int x3, .int x4, .int x5, .int x6, .int y0], [.int y0, .int (x1 &&& (x5 ^^^ (-1)))]) from rfl)).trans ?_
    exact K_calS (d := d) (Y := mX11_tracksOf) (Z := mX11_isIn) (vs := [.int (x1 &&& (x5 ^^^ (-1))), .int y0]) (rest := []) (la := [.int (x1 &&& (x5 ^^^ (-1))), .int y0]) dX11_tracksOf_73 rfl rfl rfl rfl (Nat.le_of_ble_eq_true rfl) rfl (Nat.le_of_ble_eq_true rfl)
theorem B_X11_tracksOf_11a {o : q_H} (d : Nat) (x1 x2 x3 x4 x5 x6 x7 : Int32) (g : Nat → Nat → Int32) : q_sem (d + 1) mX11_tracksOf 11 [.ref 0, .int x1, .int x2, .int x3, .int x4, .int x5, .int x6, .int x7] [] (q_K o g) = (q_sem d mX7_size 0 [.ref 6] [] (q_K o g)).bind (fun r => q_sem (d + 1) mX11_tracksOf 23 [.ref 0, .int x1, .int x2, .int x3, .int x4, .int x5, .int x6, .int x7] (r.1.toList ++ [.int x6]) r.2) := by
  refine (q_blk (Y := mX11_tracksOf) (q_dcC dX11_tracksOf_11 (q_dcC dX11_tracksOf_13 q_dcN)) (show _ = some (14, [.ref 0, .int x1, .int x2, .int x3, .int x4, .int x5, .int x6, .int x7], [.ref 0, .int x6]) from rfl)).trans ?_
  refine (k_getr (Y := mX11_tracksOf) dX11_tracksOf_14 rfl rfl ⟨by decide, rfl⟩ (by decide) rfl).trans ?_
  refine (k_getr (Y := mX11_tracksOf) dX11_tracksOf_17 rfl rfl ⟨by decide, rfl⟩ (by decide) rfl).trans ?_
  exact K_calV (d := d) (Y := mX11_tracksOf) (Z := mX7_size) (vs := []) (rest := [.int x6]) (la := [.ref 6]) dX11_tracksOf_20 rfl rfl rfl rfl ⟨by decide, rfl⟩ (Nat.le_of_ble_eq_true rfl) rfl (Nat.le_of_ble_eq_true rfl)
theorem B_X11_tracksOf_76 {o : q_H} (d : Nat) (x1 x2 x3 x4 x5 x6 x7 y0 : Int32) (g : Nat → Nat → Int32) : q_sem (d + 1) mX11_tracksOf 76 [.ref 0, .int x1, .int x2, .int x3, .int x4, .int x5, .int x6, .int x7] [.int y0] (q_K o g) = (if y0 = 0 then some (some (.int (-1)), q_K o g) else (q_sem d mX10_mayBeFollowed 0 [.ref 1, .int x7, .int x6, .retAddr 0] [] (q_K o g)).bind (fun r => q_sem (d + 1) mX11_tracksOf 90 [.ref 0, .int x1, .int x2, .int x3, .int x4, .int x5, .int x6, .int x7] (r.1.toList ++ []) r.2)) := by
  refine (q_blk (Y := mX11_tracksOf) (q_dcC dX11_tracksOf_76 q_dcN) (show _ = some ((if q_cc .eq y0 0 = true then 93 else 79), [.ref 0, .int x1, .int x2, .int x3, .int x4, .int x5, .int x6, .int x7], []) from rfl)).trans ?_
  by_cases c1 : y0 = 0
  · rw [if_pos (show q_cc .eq y0 0 = true from decide_eq_true c1)]
    refine Eq.trans ?_ (if_pos c1).symm
    refine (q_blk (Y := mX11_tracksOf) (q_dcC dX11_tracksOf_93 q_dcN) (show _ = some (94, [.ref 0, .int x1, .int x2, .int x3, .int x4, .int x5, .int x6, .int x7], [.int (-1)]) from rfl)).trans ?_
    exact k_iret (Y := mX11_tracksOf) dX11_tracksOf_94 rfl
  · rw [if_neg (show ¬ q_cc .eq y0 0 = true from fun z => c1 (of_decide_eq_true z))]
    refine Eq.trans ?_ (if_neg c1).symm
    refine (q_blk (Y := mX11_tracksOf) (q_dcC dX11_tracksOf_79 q_dcN) (show _ = some (80, [.ref 0, .int x1, .int x2, .int x3, .int x4, .int x5, .int x6, .int x7], [.ref 0]) from rfl)).trans ?_
    refine (k_getr (Y := mX11_tracksOf) dX11_tracksOf_80 rfl rfl ⟨by decide, rfl⟩ (by decide) rfl).trans ?_
    refine (q_blk (Y := mX11_tracksOf) (q_dcC dX11_tracksOf_83 (q_dcC dX11_tracksOf_85 q_dcN)) (show _ = some (87, [.ref 0, .int x1, .int x2, .int x3, .int x4, .int x5, .int x6, .int x7], [.int x6, .int x7, .ref 1]) from rfl)).trans ?_
    exact K_calV (d := d) (Y := mX11_tracksOf) (Z := mX10_mayBeFollowed) (vs := [.int x7, .int x6]) (rest := []) (la := [.ref 1, .int x7, .int x6, .retAddr 0]) dX11_tracksOf_87 rfl rfl rfl rfl ⟨by decide, rfl⟩ (Nat.le_of_ble_eq_true rfl) rfl (Nat.le_of_ble_eq_true rfl)
theorem B_X11_tracksOf_23a {o : q_H} (d : Nat) (x1 x2 x3 x4 x5 x6 x7 y0 y1 : Int32) (g : Nat → Nat → Int32) : q_sem (d + 1) mX11_tracksOf 23 [.ref 0, .int x1, .int x2, .int x3, .int x4, .int x5, .int x6, .int x7] [.int y0, .int y1] (q_K o g) = (if y0 ≤ y1 then some (some (.int x3), q_K o g) else (q_sem d mX11_isIn 0 [.int x1, .int x6] [] (q_K o g)).bind (fun r => q_sem (d + 1) mX11_tracksOf 32 [.ref 0, .int x1, .int x2, .int x3, .int x4, .int x5, .int x6, .int x7] (r.1.toList ++ []) r.2)) := by
  refine (q_blk (Y := mX11_tracksOf) (q_dcC dX11_tracksOf_23 q_dcN) (show _ = some ((if q_cc .ge y1 y0 = true then 110 else 26), [.ref 0, .int x1, .int x2, .int x3, .int x4, .int x5, .int x6, .int x7], []) from rfl)).trans ?_
  by_cases c1 : y0 ≤ y1
  · rw [if_pos (show q_cc .ge y1 y0 = true from decide_eq_true c1)]
    refine Eq.trans ?_ (if_pos c1).symm
    refine (q_blk (Y := mX11_tracksOf) (q_dcC dX11_tracksOf_110 q_dcN) (show _ = some (111, [.ref 0, .int x1, .int x2, .int x3, .int x4, .int x5, .int x6, .int x7], [.int x3]) from rfl)).trans ?_
    exact k_iret (Y := mX11_tracksOf) dX11_tracksOf_111 rfl
  · rw [if_neg (show ¬ q_cc .ge y1 y0 = true from fun z => c1 (of_decide_eq_true z))]
    refine Eq.trans ?_ (if_neg c1).symm
    refine (q_blk (Y := mX11_tracksOf) (q_dcC dX11_tracksOf_26 (q_dcC dX11_tracksOf_27 q_dcN)) (show _ = some (29, [.ref 0, .int x1, .int x2, .int x3, .int x4, .int x5, .int x6, .int x7], [.int x6, .int x1]) from rfl)).trans ?_
    exact K_calS (d := d) (Y := mX11_tracksOf) (Z := mX11_isIn) (vs := [.int x1, .int x6]) (rest := []) (la := [.int x1, .int x6]) dX11_tracksOf_29 rfl rfl rfl rfl (Nat.le_of_ble_eq_true rfl) rfl (Nat.le_of_ble_eq_true rfl)
theorem B_X11_tracksOf_90 {o : q_H} (d : Nat) (x1 x2 x3 x4 x5 x6 x7 y0 : Int32) (g : Nat → Nat → Int32) : q_sem (d) mX11_tracksOf 90 [.ref 0, .int x1, .int x2, .int x3, .int x4, .int x5, .int x6, .int x7] [.int y0] (q_K o g) = (if y0 = 0 then some (some (.int (-1)), q_K o g) else q_sem (d) mX11_tracksOf 11 [.ref 0, .int x1, .int x2, .int x3, .int x4, .int (x5 ||| (1 <<< ((x7 : Int32) &&& 31))), .int (x6 + 1), .int x7] [] (q_K o g)) := by
  refine (q_blk (Y := mX11_tracksOf) (q_dcC dX11_tracksOf_90 q_dcN) (show _ = some ((if q_cc .ne y0 0 = true then 95 else 93), [.ref 0, .int x1, .int x2, .int x3, .int x4, .int x5, .int x6, .int x7], []) from rfl)).trans ?_
  by_cases c1 : y0 = 0
  · rw [if_neg (show ¬ q_cc .ne y0 0 = true from fun z => (of_decide_eq_true z : ¬ y0 = 0) c1)]
    refine Eq.trans ?_ (if_pos c1).symm
    refine (q_blk (Y := mX11_tracksOf) (q_dcC dX11_tracksOf_93 q_dcN) (show _ = some (94, [.ref 0, .int x1, .int x2, .int x3, .int x4, .int x5, .int x6, .int x7], [.int (-1)]) from rfl)).trans ?_
    exact k_iret (Y := mX11_tracksOf) dX11_tracksOf_94 rfl
  · rw [if_pos (show q_cc .ne y0 0 = true from decide_eq_true c1)]
    refine Eq.trans ?_ (if_neg c1).symm
    refine (q_blk (Y := mX11_tracksOf) (q_dcC dX11_tracksOf_95 (q_dcC dX11_tracksOf_97 (q_dcC dX11_tracksOf_98 (q_dcC dX11_tracksOf_100 (q_dcC dX11_tracksOf_101 (q_dcC dX11_tracksOf_102 (q_dcC dX11_tracksOf_104 (q_dcC dX11_tracksOf_107 q_dcN)))))))) (show _ = some (11, [.ref 0, .int x1, .int x2, .int x3, .int x4, .int (x5 ||| (1 <<< ((x7 : Int32) &&& 31))), .int (x6 + 1), .int x7], []) from rfl)).trans ?_
    rfl
theorem B_X11_tracksOf_32a {o : q_H} (d : Nat) (x1 x2 x3 x4 x5 x6 x7 y0 : Int32) (g : Nat → Nat → Int32) : q_sem (d + 1) mX11_tracksOf 32 [.ref 0, .int x1, .int x2, .int x3, .int x4, .int x5, .int x6, .int x7] [.int y0] (q_K o g) = (if y0 = 0 then q_sem (d + 1) mX11_tracksOf 11 [.ref 0, .int x1, .int x2, .int x3, .int x4, .int x5, .int (x6 + 1), .int x7] [] (q_K o g) else (q_sem d mX6_get 0 [.ref 69, .int x2, .int x4] [] (q_K o g)).bind (fun r => q_sem (d + 1) mX11_tracksOf 51 [.ref 0, .int x1, .int x2, .int x3, .int (x4 + 1), .int x5, .int x6, .int x7] (r.1.toList ++ []) r.2)) := by
  refine (q_blk (Y := mX11_tracksOf) (q_dcC dX11_tracksOf_32 q_dcN) (show _ = some ((if q_cc .ne y0 0 = true then 38 else 35), [.ref 0, .int x1, .int x2, .int x3, .int x4, .int x5, .int x6, .int x7], []) from rfl)).trans ?_
  by_cases c1 : y0 = 0
  · rw [if_neg (show ¬ q_cc .ne y0 0 = true from fun z => (of_decide_eq_true z : ¬ y0 = 0) c1)]
    refine Eq.trans ?_ (if_pos c1).symm
    refine (q_blk (Y := mX11_tracksOf) (q_dcC dX11_tracksOf_35 q_dcN) (show _ = some (104, [.ref 0, .int x1, .int x2, .int x3, .int x4, .int x5, .int x6, .int x7], []) from rfl)).trans ?_
    refine (q_blk (Y := mX11_tracksOf) (q_dcC dX11_tracksOf_104 (q_dcC dX11_tracksOf_107 q_dcN)) (show _ = some (11, [.ref 0, .int x1, .int x2, .int x3, .int x4, .int x5, .int (x6 + 1), .int x7], []) from rfl)).trans ?_
    rfl
  · rw [if_pos (show q_cc .ne y0 0 = true from decide_eq_true c1)]
    refine Eq.trans ?_ (if_neg c1).symm
    refine (q_blk (Y := mX11_tracksOf) (q_dcC dX11_tracksOf_38 q_dcN) (show _ = some (39, [.ref 0, .int x1, .int x2, .int x3, .int x4, .int x5, .int x6, .int x7], [.ref 0]) from rfl)).trans ?_
    refine (k_getr (Y := mX11_tracksOf) dX11_tracksOf_39 rfl rfl ⟨by decide, rfl⟩ (by decide) rfl).trans ?_
    refine (q_blk (Y := mX11_tracksOf) (q_dcC dX11_tracksOf_42 (q_dcC dX11_tracksOf_43 (q_dcC dX11_tracksOf_45 q_dcN))) (show _ = some (48, [.ref 0, .int x1, .int x2, .int x3, .int (x4 + 1), .int x5, .int x6, .int x7], [.int x4, .int x2, .ref 69]) from rfl)).trans ?_
    exact K_calV (d := d) (Y := mX11_tracksOf) (Z := mX6_get) (vs := [.int x2, .int x4]) (rest := []) (la := [.ref 69, .int x2, .int x4]) dX11_tracksOf_48 rfl rfl rfl rfl ⟨by decide, rfl⟩ (Nat.le_of_ble_eq_true rfl) rfl (Nat.le_of_ble_eq_true rfl)
theorem B_X11_tracksOf_51a {o : q_H} (d : Nat) (x1 x2 x3 x4 x5 x6 x7 y0 : Int32) (g : Nat → Nat → Int32) : q_sem (d + 1) mX11_tracksOf 51 [.ref 0, .int x1, .int x2, .int x3, .int x4, .int x5, .int x6, .int x7] [.int y0] (q_K o g) = (if y0 = (-1) then q_sem (d + 1) mX11_tracksOf 11 [.ref 0, .int x1, .int x2, .int (x3 + 1), .int x4, .int x5, .int (x6 + 1), .int y0] [] (q_K o g) else (q_sem d mX11_isIn 0 [.int (x1 &&& (x5 ^^^ (-1))), .int y0] [] (q_K o g)).bind (fun r => q_sem (d + 1) mX11_tracksOf 76 [.ref 0, .int x1, .int x2, .int x3, .int x4, .int x5, .int x6, .int y0] (r.1.toList ++ []) r.2)) := by
  refine (q_blk (Y := mX11_tracksOf) (q_dcC dX11_tracksOf_51 (q_dcC dX11_tracksOf_53 (q_dcC dX11_tracksOf_55 (q_dcC dX11_tracksOf_56 q_dcN)))) (show _ = some ((if q_cc .ne y0 (-1) = true then 65 else 59), [.ref 0, .int x1, .int x2, .int x3, .int x4, .int x5, .int x6, .int y0], []) from rfl)).trans ?_
  by_cases c1 : y0 = (-1)
  · rw [if_neg (show ¬ q_cc .ne y0 (-1) = true from fun z => (of_decide_eq_true z : ¬ y0 = (-1)) c1)]
    refine Eq.trans ?_ (if_pos c1).symm
    refine (q_blk (Y := mX11_tracksOf) (q_dcC dX11_tracksOf_59 (q_dcC dX11_tracksOf_62 q_dcN)) (show _ = some (104, [.ref 0, .int x1, .int x2, .int (x3 + 1), .int x4, .int x5, .int x6, .int y0], []) from rfl)).trans ?_
    refine (q_blk (Y := mX11_tracksOf) (q_dcC dX11_tracksOf_104 (q_dcC dX11_tracksOf_107 q_dcN)) (show _ = some (11, [.ref 0, .int x1, .int x2, .int (x3 + 1), .int x4, .int x5, .int (x6 + 1), .int y0], []) from rfl)).trans ?_
    rfl
  · rw [if_pos (show q_cc .ne y0 (-1) = true from decide_eq_true c1)]
    refine Eq.trans ?_ (if_neg c1).symm
    refine (q_blk (Y := mX11_tracksOf) (q_dcC dX11_tracksOf_65 (q_dcC dX11_tracksOf_66 (q_dcC dX11_tracksOf_68 (q_dcC dX11_tracksOf_69 (q_dcC dX11_tracksOf_70 (q_dcC dX11_tracksOf_71 q_dcN)))))) (show _ = some (73, [.ref 0, .int x1, .int x2, .int x3, .int x4, .int x5, .int x6, .int y0], [.int y0, .int (x1 &&& (x5 ^^^ (-1)))]) from rfl)).trans ?_
    exact K_calS (d := d) (Y := mX11_tracksOf) (Z := mX11_isIn) (vs := [.int (x1 &&& (x5 ^^^ (-1))), .int y0]) (rest := []) (la := [.int (x1 &&& (x5 ^^^ (-1))), .int y0]) dX11_tracksOf_73 rfl rfl rfl rfl (Nat.le_of_ble_eq_true rfl) rfl (Nat.le_of_ble_eq_true rfl)
theorem B_X11_arePlots_0 {o : q_H} (d : Nat) (x1 : Int32) (g : Nat → Nat → Int32) : q_sem (d + 1) mX11_arePlots 0 [.ref 0, .int x1] [] (q_K o g) = (q_sem d mX7_size 0 [.ref 6] [] (q_K o g)).bind (fun r => q_sem (d + 1) mX11_arePlots 11 [.ref 0, .int x1] (r.1.toList ++ [.int x1]) r.2) := by
  refine (q_blk (Y := mX11_arePlots) (q_dcC dX11_arePlots_0 (q_dcC dX11_arePlots_1 q_dcN)) (show _ = some (2, [.ref 0, .int x1], [.ref 0, .int x1]) from rfl)).trans ?_
  refine (k_getr (Y := mX11_arePlots) dX11_arePlots_2 rfl rfl ⟨by decide, rfl⟩ (by decide) rfl).trans ?_
  refine (k_getr (Y := mX11_arePlots) dX11_arePlots_5 rfl rfl ⟨by decide, rfl⟩ (by decide) rfl).trans ?_
  exact K_calV (d := d) (Y := mX11_arePlots) (Z := mX7_size) (vs := []) (rest := [.int x1]) (la := [.ref 6]) dX11_arePlots_8 rfl rfl rfl rfl ⟨by decide, rfl⟩ (Nat.le_of_ble_eq_true rfl) rfl (Nat.le_of_ble_eq_true rfl)
theorem B_X11_arePlots_11 {o : q_H} (d : Nat) (x1 y0 y1 : Int32) (g : Nat → Nat → Int32) : q_sem (d) mX11_arePlots 11 [.ref 0, .int x1] [.int y0, .int y1] (q_K o g) = (if ((y1 : Int32).toUInt32 >>> ((y0 : Int32).toUInt32 &&& Int32.toUInt32 31)).toInt32 = 0 then some (some (.int 1), q_K o g) else some (some (.int 0), q_K o g)) := by
  refine (q_blk (Y := mX11_arePlots) (q_dcC dX11_arePlots_11 (q_dcC dX11_arePlots_12 q_dcN)) (show _ = some ((if q_cc .ne ((y1 : Int32).toUInt32 >>> ((y0 : Int32).toUInt32 &&& Int32.toUInt32 31)).toInt32 0 = true then 19 else 15), [.ref 0, .int x1], []) from rfl)).trans ?_
  by_cases c1 : ((y1 : Int32).toUInt32 >>> ((y0 : Int32).toUInt32 &&& Int32.toUInt32 31)).toInt32 = 0
  · rw [if_neg (show ¬ q_cc .ne ((y1 : Int32).toUInt32 >>> ((y0 : Int32).toUInt32 &&& Int32.toUInt32 31)).toInt32 0 = true from fun z => (of_decide_eq_true z : ¬ ((y1 : Int32).toUInt32 >>> ((y0 : Int32).toUInt32 &&& Int32.toUInt32 31)).toInt32 = 0) c1)]
    refine Eq.trans ?_ (if_pos c1).symm
    refine (q_blk (Y := mX11_arePlots) (q_dcC dX11_arePlots_15 (q_dcC dX11_arePlots_16 q_dcN)) (show _ = some (20, [.ref 0, .int x1], [.int 1]) from rfl)).trans ?_
    exact k_iret (Y := mX11_arePlots) dX11_arePlots_20 rfl
  · rw [if_pos (show q_cc .ne ((y1 : Int32).toUInt32 >>> ((y0 : Int32).toUInt32 &&& Int32.toUInt32 31)).toInt32 0 = true from decide_eq_true c1)]
    refine Eq.trans ?_ (if_neg c1).symm
    refine (q_blk (Y := mX11_arePlots) (q_dcC dX11_arePlots_19 q_dcN) (show _ = some (20, [.ref 0, .int x1], [.int 0]) from rfl)).trans ?_
    exact k_iret (Y := mX11_arePlots) dX11_arePlots_20 rfl
theorem B_X11_isIn_0 {o : q_H} (d : Nat) (x0 x1 : Int32) (g : Nat → Nat → Int32) : q_sem (d + 1) mX11_isIn 0 [.int x0, .int x1] [] (q_K o g) = (q_sem d mX11_within 0 [.int x1, .int 0, .int 31] [] (q_K o g)).bind (fun r => q_sem (d + 1) mX11_isIn 7 [.int x0, .int x1] (r.1.toList ++ []) r.2) := by
  refine (q_blk (Y := mX11_isIn) (q_dcC dX11_isIn_0 (q_dcC dX11_isIn_1 (q_dcC dX11_isIn_2 q_dcN))) (show _ = some (4, [.int x0, .int x1], [.int 31, .int 0, .int x1]) from rfl)).trans ?_
  exact K_calS (d := d) (Y := mX11_isIn) (Z := mX11_within) (vs := [.int x1, .int 0, .int 31]) (rest := []) (la := [.int x1, .int 0, .int 31]) dX11_isIn_4 rfl rfl rfl rfl (Nat.le_of_ble_eq_true rfl) rfl (Nat.le_of_ble_eq_true rfl)
theorem B_X11_isIn_7 {o : q_H} (d : Nat) (x0 x1 y0 : Int32) (g : Nat → Nat → Int32) : q_sem (d) mX11_isIn 7 [.int x0, .int x1] [.int y0] (q_K o g) = (if y0 = 0 then some (some (.int 0), q_K o g) else (if (((x0 : Int32).toUInt32 >>> ((x1 : Int32).toUInt32 &&& Int32.toUInt32 31)).toInt32 &&& 1) = 0 then some (some (.int 0), q_K o g) else some (some (.int 1), q_K o g))) := by
  refine (q_blk (Y := mX11_isIn) (q_dcC dX11_isIn_7 q_dcN) (show _ = some ((if q_cc .eq y0 0 = true then 22 else 10), [.int x0, .int x1], []) from rfl)).trans ?_
  by_cases c1 : y0 = 0
  · rw [if_pos (show q_cc .eq y0 0 = true from decide_eq_true c1)]
    refine Eq.trans ?_ (if_pos c1).symm
    refine (q_blk (Y := mX11_isIn) (q_dcC dX11_isIn_22 q_dcN) (show _ = some (23, [.int x0, .int x1], [.int 0]) from rfl)).trans ?_
    exact k_iret (Y := mX11_isIn) dX11_isIn_23 rfl
  · rw [if_neg (show ¬ q_cc .eq y0 0 = true from fun z => c1 (of_decide_eq_true z))]
    refine Eq.trans ?_ (if_neg c1).symm
    refine (q_blk (Y := mX11_isIn) (q_dcC dX11_isIn_10 (q_dcC dX11_isIn_11 (q_dcC dX11_isIn_12 (q_dcC dX11_isIn_13 (q_dcC dX11_isIn_14 (q_dcC dX11_isIn_15 q_dcN)))))) (show _ = some ((if q_cc .eq (((x0 : Int32).toUInt32 >>> ((x1 : Int32).toUInt32 &&& Int32.toUInt32 31)).toInt32 &&& 1) 0 = true then 22 else 18), [.int x0, .int x1], []) from rfl)).trans ?_
    by_cases c2 : (((x0 : Int32).toUInt32 >>> ((x1 : Int32).toUInt32 &&& Int32.toUInt32 31)).toInt32 &&& 1) = 0
    · rw [if_pos (show q_cc .eq (((x0 : Int32).toUInt32 >>> ((x1 : Int32).toUInt32 &&& Int32.toUInt32 31)).toInt32 &&& 1) 0 = true from decide_eq_true c2)]
      refine Eq.trans ?_ (if_pos c2).symm
      refine (q_blk (Y := mX11_isIn) (q_dcC dX11_isIn_22 q_dcN) (show _ = some (23, [.int x0, .int x1], [.int 0]) from rfl)).trans ?_
      exact k_iret (Y := mX11_isIn) dX11_isIn_23 rfl
    · rw [if_neg (show ¬ q_cc .eq (((x0 : Int32).toUInt32 >>> ((x1 : Int32).toUInt32 &&& Int32.toUInt32 31)).toInt32 &&& 1) 0 = true from fun z => c2 (of_decide_eq_true z))]
      refine Eq.trans ?_ (if_neg c2).symm
      refine (q_blk (Y := mX11_isIn) (q_dcC dX11_isIn_18 (q_dcC dX11_isIn_19 q_dcN)) (show _ = some (23, [.int x0, .int x1], [.int 1]) from rfl)).trans ?_
      exact k_iret (Y := mX11_isIn) dX11_isIn_23 rfl
theorem B_X11_isTold_0 {o : q_H} (d : Nat) (x0 x1 : Int32) (g : Nat → Nat → Int32) : q_sem (d + 1) mX11_isTold 0 [.int x0, .int x1] [] (q_K o g) = (q_sem d mX3_isCell 0 [.int x0] [] (q_K o g)).bind (fun r => q_sem (d + 1) mX11_isTold 4 [.int x0, .int x1] (r.1.toList ++ []) r.2) := by
  refine (q_blk (Y := mX11_isTold) (q_dcC dX11_isTold_0 q_dcN) (show _ = some (1, [.int x0, .int x1], [.int x0]) from rfl)).trans ?_
  exact K_calS (d := d) (Y := mX11_isTold) (Z := mX3_isCell) (vs := [.int x0]) (rest := []) (la := [.int x0]) dX11_isTold_1 rfl rfl rfl rfl (Nat.le_of_ble_eq_true rfl) rfl (Nat.le_of_ble_eq_true rfl)
theorem B_X11_isTold_4 {o : q_H} (d : Nat) (x0 x1 y0 : Int32) (g : Nat → Nat → Int32) : q_sem (d + 1) mX11_isTold 4 [.int x0, .int x1] [.int y0] (q_K o g) = (if y0 = 0 then some (some (.int 0), q_K o g) else (q_sem d mX11_within 0 [.int x1, .int 1, .int 9] [] (q_K o g)).bind (fun r => q_sem (d + 1) mX11_isTold 14 [.int x0, .int x1] (r.1.toList ++ []) r.2)) := by
  refine (q_blk (Y := mX11_isTold) (q_dcC dX11_isTold_4 q_dcN) (show _ = some ((if q_cc .eq y0 0 = true then 21 else 7), [.int x0, .int x1], []) from rfl)).trans ?_
  by_cases c1 : y0 = 0
  · rw [if_pos (show q_cc .eq y0 0 = true from decide_eq_true c1)]
    refine Eq.trans ?_ (if_pos c1).symm
    refine (q_blk (Y := mX11_isTold) (q_dcC dX11_isTold_21 q_dcN) (show _ = some (22, [.int x0, .int x1], [.int 0]) from rfl)).trans ?_
    exact k_iret (Y := mX11_isTold) dX11_isTold_22 rfl
  · rw [if_neg (show ¬ q_cc .eq y0 0 = true from fun z => c1 (of_decide_eq_true z))]
    refine Eq.trans ?_ (if_neg c1).symm
    refine (q_blk (Y := mX11_isTold) (q_dcC dX11_isTold_7 (q_dcC dX11_isTold_8 (q_dcC dX11_isTold_9 q_dcN))) (show _ = some (11, [.int x0, .int x1], [.int 9, .int 1, .int x1]) from rfl)).trans ?_
    exact K_calS (d := d) (Y := mX11_isTold) (Z := mX11_within) (vs := [.int x1, .int 1, .int 9]) (rest := []) (la := [.int x1, .int 1, .int 9]) dX11_isTold_11 rfl rfl rfl rfl (Nat.le_of_ble_eq_true rfl) rfl (Nat.le_of_ble_eq_true rfl)
theorem B_X11_isTold_14 {o : q_H} (d : Nat) (x0 x1 y0 : Int32) (g : Nat → Nat → Int32) : q_sem (d) mX11_isTold 14 [.int x0, .int x1] [.int y0] (q_K o g) = (if y0 = 0 then some (some (.int 0), q_K o g) else some (some (.int 1), q_K o g)) := by
  refine (q_blk (Y := mX11_isTold) (q_dcC dX11_isTold_14 q_dcN) (show _ = some ((if q_cc .eq y0 0 = true then 21 else 17), [.int x0, .int x1], []) from rfl)).trans ?_
  by_cases c1 : y0 = 0
  · rw [if_pos (show q_cc .eq y0 0 = true from decide_eq_true c1)]
    refine Eq.trans ?_ (if_pos c1).symm
    refine (q_blk (Y := mX11_isTold) (q_dcC dX11_isTold_21 q_dcN) (show _ = some (22, [.int x0, .int x1], [.int 0]) from rfl)).trans ?_
    exact k_iret (Y := mX11_isTold) dX11_isTold_22 rfl
  · rw [if_neg (show ¬ q_cc .eq y0 0 = true from fun z => c1 (of_decide_eq_true z))]
    refine Eq.trans ?_ (if_neg c1).symm
    refine (q_blk (Y := mX11_isTold) (q_dcC dX11_isTold_17 (q_dcC dX11_isTold_18 q_dcN)) (show _ = some (22, [.int x0, .int x1], [.int 1]) from rfl)).trans ?_
    exact k_iret (Y := mX11_isTold) dX11_isTold_22 rfl
theorem B_X11_flyer_0 {o : q_H} (d : Nat) (x1 x2 x3 x4 : Int32) (g : Nat → Nat → Int32) : q_sem (d + 1) mX11_flyer 0 [.ref 0, .int x1, .int x2, .int x3, .int x4, .retAddr 0] [] (q_K o g) = (q_sem d mX11_within 0 [.int x1, .int 0, .int 3] [] (q_K o g)).bind (fun r => q_sem (d + 1) mX11_flyer 6 [.ref 0, .int x1, .int x2, .int x3, .int x4, .retAddr 0] (r.1.toList ++ []) r.2) := by
  refine (q_blk (Y := mX11_flyer) (q_dcC dX11_flyer_0 (q_dcC dX11_flyer_1 (q_dcC dX11_flyer_2 q_dcN))) (show _ = some (3, [.ref 0, .int x1, .int x2, .int x3, .int x4, .retAddr 0], [.int 3, .int 0, .int x1]) from rfl)).trans ?_
  exact K_calS (d := d) (Y := mX11_flyer) (Z := mX11_within) (vs := [.int x1, .int 0, .int 3]) (rest := []) (la := [.int x1, .int 0, .int 3]) dX11_flyer_3 rfl rfl rfl rfl (Nat.le_of_ble_eq_true rfl) rfl (Nat.le_of_ble_eq_true rfl)
theorem B_X11_flyer_6 {o : q_H} (d : Nat) (x1 x2 x3 x4 y0 : Int32) (g : Nat → Nat → Int32) : q_sem (d + 1) mX11_flyer 6 [.ref 0, .int x1, .int x2, .int x3, .int x4, .retAddr 0] [.int y0] (q_K o g) = (if y0 = 0 then (q_sem d mX11_finding 0 [.ref 0, .int 1] [] (q_K o g)).bind (fun r => q_sem (d + 1) mX11_flyer 46 [.ref 0, .int x1, .int x2, .int x3, .int x4, .retAddr 0] (r.1.toList ++ []) r.2) else (q_sem d mX11_isTold 0 [.int x2, .int x4] [] (q_K o g)).bind (fun r => q_sem (d + 1) mX11_flyer 15 [.ref 0, .int x1, .int x2, .int x3, .int x4, .retAddr 0] (r.1.toList ++ []) r.2)) := by
  refine (q_blk (Y := mX11_flyer) (q_dcC dX11_flyer_6 q_dcN) (show _ = some ((if q_cc .eq y0 0 = true then 41 else 9), [.ref 0, .int x1, .int x2, .int x3, .int x4, .retAddr 0], []) from rfl)).trans ?_
  by_cases c1 : y0 = 0
  · rw [if_pos (show q_cc .eq y0 0 = true from decide_eq_true c1)]
    refine Eq.trans ?_ (if_pos c1).symm
    refine (q_blk (Y := mX11_flyer) (q_dcC dX11_flyer_41 (q_dcC dX11_flyer_42 q_dcN)) (show _ = some (43, [.ref 0, .int x1, .int x2, .int x3, .int x4, .retAddr 0], [.int 1, .ref 0]) from rfl)).trans ?_
    exact K_calV (d := d) (Y := mX11_flyer) (Z := mX11_finding) (vs := [.int 1]) (rest := []) (la := [.ref 0, .int 1]) dX11_flyer_43 rfl rfl rfl rfl ⟨by decide, rfl⟩ (Nat.le_of_ble_eq_true rfl) rfl (Nat.le_of_ble_eq_true rfl)
  · rw [if_neg (show ¬ q_cc .eq y0 0 = true from fun z => c1 (of_decide_eq_true z))]
    refine Eq.trans ?_ (if_neg c1).symm
    refine (q_blk (Y := mX11_flyer) (q_dcC dX11_flyer_9 (q_dcC dX11_flyer_10 q_dcN)) (show _ = some (12, [.ref 0, .int x1, .int x2, .int x3, .int x4, .retAddr 0], [.int x4, .int x2]) from rfl)).trans ?_
    exact K_calS (d := d) (Y := mX11_flyer) (Z := mX11_isTold) (vs := [.int x2, .int x4]) (rest := []) (la := [.int x2, .int x4]) dX11_flyer_12 rfl rfl rfl rfl (Nat.le_of_ble_eq_true rfl) rfl (Nat.le_of_ble_eq_true rfl)
theorem B_X11_flyer_46 {o : q_H} (d : Nat) (x1 x2 x3 x4 y0 : Int32) (g : Nat → Nat → Int32) : q_sem (d) mX11_flyer 46 [.ref 0, .int x1, .int x2, .int x3, .int x4, .retAddr 0] [.int y0] (q_K o g) = some (some (.int y0), q_K o g) := by
  exact k_iret (Y := mX11_flyer) dX11_flyer_46 rfl
theorem B_X11_flyer_15 {o : q_H} (d : Nat) (x1 x2 x3 x4 y0 : Int32) (g : Nat → Nat → Int32) : q_sem (d + 1) mX11_flyer 15 [.ref 0, .int x1, .int x2, .int x3, .int x4, .retAddr 0] [.int y0] (q_K o g) = (if y0 = 0 then (q_sem d mX11_finding 0 [.ref 0, .int 1] [] (q_K o g)).bind (fun r => q_sem (d + 1) mX11_flyer 46 [.ref 0, .int x1, .int x2, .int x3, .int x4, .retAddr 0] (r.1.toList ++ []) r.2) else (q_sem d mX11_within 0 [.int x3, .int 0, .int 3999] [] (q_K o g)).bind (fun r => q_sem (d + 1) mX11_flyer 26 [.ref 0, .int x1, .int x2, .int x3, .int x4, .retAddr 0] (r.1.toList ++ []) r.2)) := by
  refine (q_blk (Y := mX11_flyer) (q_dcC dX11_flyer_15 q_dcN) (show _ = some ((if q_cc .eq y0 0 = true then 41 else 18), [.ref 0, .int x1, .int x2, .int x3, .int x4, .retAddr 0], []) from rfl)).trans ?_
  by_cases c1 : y0 = 0
  · rw [if_pos (show q_cc .eq y0 0 = true from decide_eq_true c1)]
    refine Eq.trans ?_ (if_pos c1).symm
    refine (q_blk (Y := mX11_flyer) (q_dcC dX11_flyer_41 (q_dcC dX11_flyer_42 q_dcN)) (show _ = some (43, [.ref 0, .int x1, .int x2, .int x3, .int x4, .retAddr 0], [.int 1, .ref 0]) from rfl)).trans ?_
    exact K_calV (d := d) (Y := mX11_flyer) (Z := mX11_finding) (vs := [.int 1]) (rest := []) (la := [.ref 0, .int 1]) dX11_flyer_43 rfl rfl rfl rfl ⟨by decide, rfl⟩ (Nat.le_of_ble_eq_true rfl) rfl (Nat.le_of_ble_eq_true rfl)
  · rw [if_neg (show ¬ q_cc .eq y0 0 = true from fun z => c1 (of_decide_eq_true z))]
    refine Eq.trans ?_ (if_neg c1).symm
    refine (q_blk (Y := mX11_flyer) (q_dcC dX11_flyer_18 (q_dcC dX11_flyer_19 (q_dcC dX11_flyer_20 q_dcN))) (show _ = some (23, [.ref 0, .int x1, .int x2, .int x3, .int x4, .retAddr 0], [.int 3999, .int 0, .int x3]) from rfl)).trans ?_
    exact K_calS (d := d) (Y := mX11_flyer) (Z := mX11_within) (vs := [.int x3, .int 0, .int 3999]) (rest := []) (la := [.int x3, .int 0, .int 3999]) dX11_flyer_23 rfl rfl rfl rfl (Nat.le_of_ble_eq_true rfl) rfl (Nat.le_of_ble_eq_true rfl)
theorem B_X11_flyer_26 {o : q_H} (d : Nat) (x1 x2 x3 x4 y0 : Int32) (g : Nat → Nat → Int32) : q_sem (d + 1) mX11_flyer 26 [.ref 0, .int x1, .int x2, .int x3, .int x4, .retAddr 0] [.int y0] (q_K o g) = (if y0 = 0 then (q_sem d mX11_finding 0 [.ref 0, .int 1] [] (q_K o g)).bind (fun r => q_sem (d + 1) mX11_flyer 46 [.ref 0, .int x1, .int x2, .int x3, .int x4, .retAddr 0] (r.1.toList ++ []) r.2) else (if ((x3 / 100) - (x3 / 100) / 10 * 10) ≤ 7 then (q_sem d mX10_addFlyer 0 [.ref 1, .int x1, .int x2, .int x4, .retAddr 0] [] (q_K o g)).bind (fun r => q_sem (d + 1) mX11_flyer 58 [.ref 0, .int x1, .int x2, .int x3, .int x4, .retAddr 0] (r.1.toList ++ []) r.2) else (q_sem d mX11_finding 0 [.ref 0, .int 1] [] (q_K o g)).bind (fun r => q_sem (d + 1) mX11_flyer 46 [.ref 0, .int x1, .int x2, .int x3, .int x4, .retAddr 0] (r.1.toList ++ []) r.2))) := by
  refine (q_blk (Y := mX11_flyer) (q_dcC dX11_flyer_26 q_dcN) (show _ = some ((if q_cc .eq y0 0 = true then 41 else 29), [.ref 0, .int x1, .int x2, .int x3, .int x4, .retAddr 0], []) from rfl)).trans ?_
  by_cases c1 : y0 = 0
  · rw [if_pos (show q_cc .eq y0 0 = true from decide_eq_true c1)]
    refine Eq.trans ?_ (if_pos c1).symm
    refine (q_blk (Y := mX11_flyer) (q_dcC dX11_flyer_41 (q_dcC dX11_flyer_42 q_dcN)) (show _ = some (43, [.ref 0, .int x1, .int x2, .int x3, .int x4, .retAddr 0], [.int 1, .ref 0]) from rfl)).trans ?_
    exact K_calV (d := d) (Y := mX11_flyer) (Z := mX11_finding) (vs := [.int 1]) (rest := []) (la := [.ref 0, .int 1]) dX11_flyer_43 rfl rfl rfl rfl ⟨by decide, rfl⟩ (Nat.le_of_ble_eq_true rfl) rfl (Nat.le_of_ble_eq_true rfl)
  · rw [if_neg (show ¬ q_cc .eq y0 0 = true from fun z => c1 (of_decide_eq_true z))]
    refine Eq.trans ?_ (if_neg c1).symm
    refine (q_blk (Y := mX11_flyer) (q_dcC dX11_flyer_29 (q_dcC dX11_flyer_30 (q_dcC dX11_flyer_32 (q_dcC dX11_flyer_33 (q_dcC dX11_flyer_35 (q_dcC dX11_flyer_36 (q_dcC dX11_flyer_38 q_dcN))))))) (show _ = some ((if q_cc .le ((x3 / 100) - (x3 / 100) / 10 * 10) 7 = true then 47 else 41), [.ref 0, .int x1, .int x2, .int x3, .int x4, .retAddr 0], []) from rfl)).trans ?_
    by_cases c2 : ((x3 / 100) - (x3 / 100) / 10 * 10) ≤ 7
    · rw [if_pos (show q_cc .le ((x3 / 100) - (x3 / 100) / 10 * 10) 7 = true from decide_eq_true c2)]
      refine Eq.trans ?_ (if_pos c2).symm
      refine (q_blk (Y := mX11_flyer) (q_dcC dX11_flyer_47 q_dcN) (show _ = some (48, [.ref 0, .int x1, .int x2, .int x3, .int x4, .retAddr 0], [.ref 0]) from rfl)).trans ?_
      refine (k_getr (Y := mX11_flyer) dX11_flyer_48 rfl rfl ⟨by decide, rfl⟩ (by decide) rfl).trans ?_
      refine (q_blk (Y := mX11_flyer) (q_dcC dX11_flyer_51 (q_dcC dX11_flyer_52 (q_dcC dX11_flyer_53 q_dcN))) (show _ = some (55, [.ref 0, .int x1, .int x2, .int x3, .int x4, .retAddr 0], [.int x4, .int x2, .int x1, .ref 1]) from rfl)).trans ?_
      exact K_calV (d := d) (Y := mX11_flyer) (Z := mX10_addFlyer) (vs := [.int x1, .int x2, .int x4]) (rest := []) (la := [.ref 1, .int x1, .int x2, .int x4, .retAddr 0]) dX11_flyer_55 rfl rfl rfl rfl ⟨by decide, rfl⟩ (Nat.le_of_ble_eq_true rfl) rfl (Nat.le_of_ble_eq_true rfl)
    · rw [if_neg (show ¬ q_cc .le ((x3 / 100) - (x3 / 100) / 10 * 10) 7 = true from fun z => c2 (of_decide_eq_true z))]
      refine Eq.trans ?_ (if_neg c2).symm
      refine (q_blk (Y := mX11_flyer) (q_dcC dX11_flyer_41 (q_dcC dX11_flyer_42 q_dcN)) (show _ = some (43, [.ref 0, .int x1, .int x2, .int x3, .int x4, .retAddr 0], [.int 1, .ref 0]) from rfl)).trans ?_
      exact K_calV (d := d) (Y := mX11_flyer) (Z := mX11_finding) (vs := [.int 1]) (rest := []) (la := [.ref 0, .int 1]) dX11_flyer_43 rfl rfl rfl rfl ⟨by decide, rfl⟩ (Nat.le_of_ble_eq_true rfl) rfl (Nat.le_of_ble_eq_true rfl)
theorem B_X11_flyer_58 {o : q_H} (d : Nat) (x1 x2 x3 x4 y0 : Int32) (g : Nat → Nat → Int32) : q_sem (d + 1) mX11_flyer 58 [.ref 0, .int x1, .int x2, .int x3, .int x4, .retAddr 0] [.int y0] (q_K o g) = (if 0 ≤ y0 then (q_sem d mX7_write 0 [.ref 12, .int y0, .int 3, .int (x3 / 1000)] [] (q_K o g)).bind (fun r => q_sem (d + 1) mX11_flyer 89 [.ref 0, .int x1, .int x2, .int x3, .int x4, .int y0] (r.1.toList ++ []) r.2) else (q_sem d mX11_finding 0 [.ref 0, .int 4] [] (q_K o g)).bind (fun r => q_sem (d + 1) mX11_flyer 70 [.ref 0, .int x1, .int x2, .int x3, .int x4, .int y0] (r.1.toList ++ []) r.2)) := by
  refine (q_blk (Y := mX11_flyer) (q_dcC dX11_flyer_58 (q_dcC dX11_flyer_60 (q_dcC dX11_flyer_62 q_dcN))) (show _ = some ((if q_cc .ge y0 0 = true then 71 else 65), [.ref 0, .int x1, .int x2, .int x3, .int x4, .int y0], []) from rfl)).trans ?_
  by_cases c1 : 0 ≤ y0
  · rw [if_pos (show q_cc .ge y0 0 = true from decide_eq_true c1)]
    refine Eq.trans ?_ (if_pos c1).symm
    refine (q_blk (Y := mX11_flyer) (q_dcC dX11_flyer_71 q_dcN) (show _ = some (72, [.ref 0, .int x1, .int x2, .int x3, .int x4, .int y0], [.ref 0]) from rfl)).trans ?_
    refine (k_getr (Y := mX11_flyer) dX11_flyer_72 rfl rfl ⟨by decide, rfl⟩ (by decide) rfl).trans ?_
    refine (k_getr (Y := mX11_flyer) dX11_flyer_75 rfl rfl ⟨by decide, rfl⟩ (by decide) rfl).trans ?_
    refine (q_blk (Y := mX11_flyer) (q_dcC dX11_flyer_78 (q_dcC dX11_flyer_80 (q_dcC dX11_flyer_81 (q_dcC dX11_flyer_82 (q_dcC dX11_flyer_85 q_dcN))))) (show _ = some (86, [.ref 0, .int x1, .int x2, .int x3, .int x4, .int y0], [.int (x3 / 1000), .int 3, .int y0, .ref 12]) from rfl)).trans ?_
    exact K_calV (d := d) (Y := mX11_flyer) (Z := mX7_write) (vs := [.int y0, .int 3, .int (x3 / 1000)]) (rest := []) (la := [.ref 12, .int y0, .int 3, .int (x3 / 1000)]) dX11_flyer_86 rfl rfl rfl rfl ⟨by decide, rfl⟩ (Nat.le_of_ble_eq_true rfl) rfl (Nat.le_of_ble_eq_true rfl)
  · rw [if_neg (show ¬ q_cc .ge y0 0 = true from fun z => c1 (of_decide_eq_true z))]
    refine Eq.trans ?_ (if_neg c1).symm
    refine (q_blk (Y := mX11_flyer) (q_dcC dX11_flyer_65 (q_dcC dX11_flyer_66 q_dcN)) (show _ = some (67, [.ref 0, .int x1, .int x2, .int x3, .int x4, .int y0], [.int 4, .ref 0]) from rfl)).trans ?_
    exact K_calV (d := d) (Y := mX11_flyer) (Z := mX11_finding) (vs := [.int 4]) (rest := []) (la := [.ref 0, .int 4]) dX11_flyer_67 rfl rfl rfl rfl ⟨by decide, rfl⟩ (Nat.le_of_ble_eq_true rfl) rfl (Nat.le_of_ble_eq_true rfl)
theorem B_X11_flyer_89 {o : q_H} (d : Nat) (x1 x2 x3 x4 x5 : Int32) (g : Nat → Nat → Int32) : q_sem (d + 1) mX11_flyer 89 [.ref 0, .int x1, .int x2, .int x3, .int x4, .int x5] [] (q_K o g) = (q_sem d mX7_write 0 [.ref 12, .int x5, .int 4, .int ((x3 / 100) - (x3 / 100) / 10 * 10)] [] (q_K o g)).bind (fun r => q_sem (d + 1) mX11_flyer 109 [.ref 0, .int x1, .int x2, .int x3, .int x4, .int x5] (r.1.toList ++ []) r.2) := by
  refine (q_blk (Y := mX11_flyer) (q_dcC dX11_flyer_89 q_dcN) (show _ = some (90, [.ref 0, .int x1, .int x2, .int x3, .int x4, .int x5], [.ref 0]) from rfl)).trans ?_
  refine (k_getr (Y := mX11_flyer) dX11_flyer_90 rfl rfl ⟨by decide, rfl⟩ (by decide) rfl).trans ?_
  refine (k_getr (Y := mX11_flyer) dX11_flyer_93 rfl rfl ⟨by decide, rfl⟩ (by decide) rfl).trans ?_
  refine (q_blk (Y := mX11_flyer) (q_dcC dX11_flyer_96 (q_dcC dX11_flyer_98 (q_dcC dX11_flyer_99 (q_dcC dX11_flyer_100 (q_dcC dX11_flyer_102 (q_dcC dX11_flyer_103 (q_dcC dX11_flyer_105 q_dcN))))))) (show _ = some (106, [.ref 0, .int x1, .int x2, .int x3, .int x4, .int x5], [.int ((x3 / 100) - (x3 / 100) / 10 * 10), .int 4, .int x5, .ref 12]) from rfl)).trans ?_
  exact K_calV (d := d) (Y := mX11_flyer) (Z := mX7_write) (vs := [.int x5, .int 4, .int ((x3 / 100) - (x3 / 100) / 10 * 10)]) (rest := []) (la := [.ref 12, .int x5, .int 4, .int ((x3 / 100) - (x3 / 100) / 10 * 10)]) dX11_flyer_106 rfl rfl rfl rfl ⟨by decide, rfl⟩ (Nat.le_of_ble_eq_true rfl) rfl (Nat.le_of_ble_eq_true rfl)
theorem B_X11_flyer_70 {o : q_H} (d : Nat) (x1 x2 x3 x4 x5 y0 : Int32) (g : Nat → Nat → Int32) : q_sem (d) mX11_flyer 70 [.ref 0, .int x1, .int x2, .int x3, .int x4, .int x5] [.int y0] (q_K o g) = some (some (.int y0), q_K o g) := by
  exact k_iret (Y := mX11_flyer) dX11_flyer_70 rfl
theorem B_X11_flyer_109 {o : q_H} (d : Nat) (x1 x2 x3 x4 x5 : Int32) (g : Nat → Nat → Int32) : q_sem (d + 1) mX11_flyer 109 [.ref 0, .int x1, .int x2, .int x3, .int x4, .int x5] [] (q_K o g) = (q_sem d mX7_write 0 [.ref 12, .int x5, .int 2, .int (x3 - x3 / 100 * 100)] [] (q_K o g)).bind (fun r => q_sem (d + 1) mX11_flyer 126 [.ref 0, .int x1, .int x2, .int x3, .int x4, .int x5] (r.1.toList ++ []) r.2) := by
  refine (q_blk (Y := mX11_flyer) (q_dcC dX11_flyer_109 q_dcN) (show _ = some (110, [.ref 0, .int x1, .int x2, .int x3, .int x4, .int x5], [.ref 0]) from rfl)).trans ?_
  refine (k_getr (Y := mX11_flyer) dX11_flyer_110 rfl rfl ⟨by decide, rfl⟩ (by decide) rfl).trans ?_
  refine (k_getr (Y := mX11_flyer) dX11_flyer_113 rfl rfl ⟨by decide, rfl⟩ (by decide) rfl).trans ?_
  refine (q_blk (Y := mX11_flyer) (q_dcC dX11_flyer_116 (q_dcC dX11_flyer_118 (q_dcC dX11_flyer_119 (q_dcC dX11_flyer_120 (q_dcC dX11_flyer_122 q_dcN))))) (show _ = some (123, [.ref 0, .int x1, .int x2, .int x3, .int x4, .int x5], [.int (x3 - x3 / 100 * 100), .int 2, .int x5, .ref 12]) from rfl)).trans ?_
  exact K_calV (d := d) (Y := mX11_flyer) (Z := mX7_write) (vs := [.int x5, .int 2, .int (x3 - x3 / 100 * 100)]) (rest := []) (la := [.ref 12, .int x5, .int 2, .int (x3 - x3 / 100 * 100)]) dX11_flyer_123 rfl rfl rfl rfl ⟨by decide, rfl⟩ (Nat.le_of_ble_eq_true rfl) rfl (Nat.le_of_ble_eq_true rfl)
theorem B_X11_flyer_126 {o : q_H} (d : Nat) (x1 x2 x3 x4 x5 : Int32) (g : Nat → Nat → Int32) : q_sem (d) mX11_flyer 126 [.ref 0, .int x1, .int x2, .int x3, .int x4, .int x5] [] (q_K o g) = some (some (.int x5), q_K o g) := by
  refine (q_blk (Y := mX11_flyer) (q_dcC dX11_flyer_126 q_dcN) (show _ = some (128, [.ref 0, .int x1, .int x2, .int x3, .int x4, .int x5], [.int x5]) from rfl)).trans ?_
  exact k_iret (Y := mX11_flyer) dX11_flyer_128 rfl
theorem B_X11_flight_0 {o : q_H} (d : Nat) (x1 x2 x3 x4 x5 : Int32) (g : Nat → Nat → Int32) : q_sem (d + 1) mX11_flight 0 [.ref 0, .int x1, .int x2, .int x3, .int x4, .int x5, .retAddr 0] [] (q_K o g) = (q_sem d mX7_has 0 [.ref 8, .int x1] [] (q_K o g)).bind (fun r => q_sem (d + 1) mX11_flight 11 [.ref 0, .int x1, .int x2, .int x3, .int x4, .int x5, .retAddr 0] (r.1.toList ++ []) r.2) := by
  refine (q_blk (Y := mX11_flight) (q_dcC dX11_flight_0 q_dcN) (show _ = some (1, [.ref 0, .int x1, .int x2, .int x3, .int x4, .int x5, .retAddr 0], [.ref 0]) from rfl)).trans ?_
  refine (k_getr (Y := mX11_flight) dX11_flight_1 rfl rfl ⟨by decide, rfl⟩ (by decide) rfl).trans ?_
  refine (k_getr (Y := mX11_flight) dX11_flight_4 rfl rfl ⟨by decide, rfl⟩ (by decide) rfl).trans ?_
  refine (q_blk (Y := mX11_flight) (q_dcC dX11_flight_7 q_dcN) (show _ = some (8, [.ref 0, .int x1, .int x2, .int x3, .int x4, .int x5, .retAddr 0], [.int x1, .ref 8]) from rfl)).trans ?_
  exact K_calV (d := d) (Y := mX11_flight) (Z := mX7_has) (vs := [.int x1]) (rest := []) (la := [.ref 8, .int x1]) dX11_flight_8 rfl rfl rfl rfl ⟨by decide, rfl⟩ (Nat.le_of_ble_eq_true rfl) rfl (Nat.le_of_ble_eq_true rfl)
theorem B_X11_flight_11 {o : q_H} (d : Nat) (x1 x2 x3 x4 x5 y0 : Int32) (g : Nat → Nat → Int32) : q_sem (d + 1) mX11_flight 11 [.ref 0, .int x1, .int x2, .int x3, .int x4, .int x5, .retAddr 0] [.int y0] (q_K o g) = (if y0 = 0 then (q_sem d mX11_finding 0 [.ref 0, .int 1] [] (q_K o g)).bind (fun r => q_sem (d + 1) mX11_flight 50 [.ref 0, .int x1, .int x2, .int x3, .int x4, .int x5, .retAddr 0] (r.1.toList ++ []) r.2) else (q_sem d mX11_within 0 [.int x2, .int 0, .int 99] [] (q_K o g)).bind (fun r => q_sem (d + 1) mX11_flight 21 [.ref 0, .int x1, .int x2, .int x3, .int x4, .int x5, .retAddr 0] (r.1.toList ++ []) r.2)) := by
  refine (q_blk (Y := mX11_flight) (q_dcC dX11_flight_11 q_dcN) (show _ = some ((if q_cc .eq y0 0 = true then 45 else 14), [.ref 0, .int x1, .int x2, .int x3, .int x4, .int x5, .retAddr 0], []) from rfl)).trans ?_
  by_cases c1 : y0 = 0
  · rw [if_pos (show q_cc .eq y0 0 = true from decide_eq_true c1)]
    refine Eq.trans ?_ (if_pos c1).symm
    refine (q_blk (Y := mX11_flight) (q_dcC dX11_flight_45 (q_dcC dX11_flight_46 q_dcN)) (show _ = some (47, [.ref 0, .int x1, .int x2, .int x3, .int x4, .int x5, .retAddr 0], [.int 1, .ref 0]) from rfl)).trans ?_
    exact K_calV (d := d) (Y := mX11_flight) (Z := mX11_finding) (vs := [.int 1]) (rest := []) (la := [.ref 0, .int 1]) dX11_flight_47 rfl rfl rfl rfl ⟨by decide, rfl⟩ (Nat.le_of_ble_eq_true rfl) rfl (Nat.le_of_ble_eq_true rfl)
  · rw [if_neg (show ¬ q_cc .eq y0 0 = true from fun z => c1 (of_decide_eq_true z))]
    refine Eq.trans ?_ (if_neg c1).symm
    refine (q_blk (Y := mX11_flight) (q_dcC dX11_flight_14 (q_dcC dX11_flight_15 (q_dcC dX11_flight_16 q_dcN))) (show _ = some (18, [.ref 0, .int x1, .int x2, .int x3, .int x4, .int x5, .retAddr 0], [.int 99, .int 0, .int x2]) from rfl)).trans ?_
    exact K_calS (d := d) (Y := mX11_flight) (Z := mX11_within) (vs := [.int x2, .int 0, .int 99]) (rest := []) (la := [.int x2, .int 0, .int 99]) dX11_flight_18 rfl rfl rfl rfl (Nat.le_of_ble_eq_true rfl) rfl (Nat.le_of_ble_eq_true rfl)
theorem B_X11_flight_50 {o : q_H} (d : Nat) (x1 x2 x3 x4 x5 y0 : Int32) (g : Nat → Nat → Int32) : q_sem (d) mX11_flight 50 [.ref 0, .int x1, .int x2, .int x3, .int x4, .int x5, .retAddr 0] [.int y0] (q_K o g) = some (some (.int y0), q_K o g) := by
  exact k_iret (Y := mX11_flight) dX11_flight_50 rfl
theorem B_X11_flight_21 {o : q_H} (d : Nat) (x1 x2 x3 x4 x5 y0 : Int32) (g : Nat → Nat → Int32) : q_sem (d + 1) mX11_flight 21 [.ref 0, .int x1, .int x2, .int x3, .int x4, .int x5, .retAddr 0] [.int y0] (q_K o g) = (if y0 = 0 then (q_sem d mX11_finding 0 [.ref 0, .int 1] [] (q_K o g)).bind (fun r => q_sem (d + 1) mX11_flight 50 [.ref 0, .int x1, .int x2, .int x3, .int x4, .int x5, .retAddr 0] (r.1.toList ++ []) r.2) else (q_sem d mX11_within 0 [.int x3, .int 0, .int 99] [] (q_K o g)).bind (fun r => q_sem (d + 1) mX11_flight 31 [.ref 0, .int x1, .int x2, .int x3, .int x4, .int x5, .retAddr 0] (r.1.toList ++ []) r.2)) := by
  refine (q_blk (Y := mX11_flight) (q_dcC dX11_flight_21 q_dcN) (show _ = some ((if q_cc .eq y0 0 = true then 45 else 24), [.ref 0, .int x1, .int x2, .int x3, .int x4, .int x5, .retAddr 0], []) from rfl)).trans ?_
  by_cases c1 : y0 = 0
  · rw [if_pos (show q_cc .eq y0 0 = true from decide_eq_true c1)]
    refine Eq.trans ?_ (if_pos c1).symm
    refine (q_blk (Y := mX11_flight) (q_dcC dX11_flight_45 (q_dcC dX11_flight_46 q_dcN)) (show _ = some (47, [.ref 0, .int x1, .int x2, .int x3, .int x4, .int x5, .retAddr 0], [.int 1, .ref 0]) from rfl)).trans ?_
    exact K_calV (d := d) (Y := mX11_flight) (Z := mX11_finding) (vs := [.int 1]) (rest := []) (la := [.ref 0, .int 1]) dX11_flight_47 rfl rfl rfl rfl ⟨by decide, rfl⟩ (Nat.le_of_ble_eq_true rfl) rfl (Nat.le_of_ble_eq_true rfl)
  · rw [if_neg (show ¬ q_cc .eq y0 0 = true from fun z => c1 (of_decide_eq_true z))]
    refine Eq.trans ?_ (if_neg c1).symm
    refine (q_blk (Y := mX11_flight) (q_dcC dX11_flight_24 (q_dcC dX11_flight_25 (q_dcC dX11_flight_26 q_dcN))) (show _ = some (28, [.ref 0, .int x1, .int x2, .int x3, .int x4, .int x5, .retAddr 0], [.int 99, .int 0, .int x3]) from rfl)).trans ?_
    exact K_calS (d := d) (Y := mX11_flight) (Z := mX11_within) (vs := [.int x3, .int 0, .int 99]) (rest := []) (la := [.int x3, .int 0, .int 99]) dX11_flight_28 rfl rfl rfl rfl (Nat.le_of_ble_eq_true rfl) rfl (Nat.le_of_ble_eq_true rfl)
theorem B_X11_flight_31 {o : q_H} (d : Nat) (x1 x2 x3 x4 x5 y0 : Int32) (g : Nat → Nat → Int32) : q_sem (d + 1) mX11_flight 31 [.ref 0, .int x1, .int x2, .int x3, .int x4, .int x5, .retAddr 0] [.int y0] (q_K o g) = (if y0 = 0 then (q_sem d mX11_finding 0 [.ref 0, .int 1] [] (q_K o g)).bind (fun r => q_sem (d + 1) mX11_flight 50 [.ref 0, .int x1, .int x2, .int x3, .int x4, .int x5, .retAddr 0] (r.1.toList ++ []) r.2) else (q_sem d mX11_within 0 [.int x4, .int 1, .int 9] [] (q_K o g)).bind (fun r => q_sem (d + 1) mX11_flight 42 [.ref 0, .int x1, .int x2, .int x3, .int x4, .int x5, .retAddr 0] (r.1.toList ++ []) r.2)) := by
  refine (q_blk (Y := mX11_flight) (q_dcC dX11_flight_31 q_dcN) (show _ = some ((if q_cc .eq y0 0 = true then 45 else 34), [.ref 0, .int x1, .int x2, .int x3, .int x4, .int x5, .retAddr 0], []) from rfl)).trans ?_
  by_cases c1 : y0 = 0
  · rw [if_pos (show q_cc .eq y0 0 = true from decide_eq_true c1)]
    refine Eq.trans ?_ (if_pos c1).symm
    refine (q_blk (Y := mX11_flight) (q_dcC dX11_flight_45 (q_dcC dX11_flight_46 q_dcN)) (show _ = some (47, [.ref 0, .int x1, .int x2, .int x3, .int x4, .int x5, .retAddr 0], [.int 1, .ref 0]) from rfl)).trans ?_
    exact K_calV (d := d) (Y := mX11_flight) (Z := mX11_finding) (vs := [.int 1]) (rest := []) (la := [.ref 0, .int 1]) dX11_flight_47 rfl rfl rfl rfl ⟨by decide, rfl⟩ (Nat.le_of_ble_eq_true rfl) rfl (Nat.le_of_ble_eq_true rfl)
  · rw [if_neg (show ¬ q_cc .eq y0 0 = true from fun z => c1 (of_decide_eq_true z))]
    refine Eq.trans ?_ (if_neg c1).symm
    refine (q_blk (Y := mX11_flight) (q_dcC dX11_flight_34 (q_dcC dX11_flight_36 (q_dcC dX11_flight_37 q_dcN))) (show _ = some (39, [.ref 0, .int x1, .int x2, .int x3, .int x4, .int x5, .retAddr 0], [.int 9, .int 1, .int x4]) from rfl)).trans ?_
    exact K_calS (d := d) (Y := mX11_flight) (Z := mX11_within) (vs := [.int x4, .int 1, .int 9]) (rest := []) (la := [.int x4, .int 1, .int 9]) dX11_flight_39 rfl rfl rfl rfl (Nat.le_of_ble_eq_true rfl) rfl (Nat.le_of_ble_eq_true rfl)
theorem B_X11_flight_42 {o : q_H} (d : Nat) (x1 x2 x3 x4 x5 y0 : Int32) (g : Nat → Nat → Int32) : q_sem (d + 1) mX11_flight 42 [.ref 0, .int x1, .int x2, .int x3, .int x4, .int x5, .retAddr 0] [.int y0] (q_K o g) = (if y0 = 0 then (q_sem d mX11_finding 0 [.ref 0, .int 1] [] (q_K o g)).bind (fun r => q_sem (d + 1) mX11_flight 50 [.ref 0, .int x1, .int x2, .int x3, .int x4, .int x5, .retAddr 0] (r.1.toList ++ []) r.2) else (if x5 = 0 then (q_sem d mX7_get 0 [.ref 8, .int x1, .int 0] [] (q_K o g)).bind (fun r => q_sem (d + 1) mX11_flight 77 [.ref 0, .int x1, .int x2, .int x3, .int x4, .int x5, .retAddr 0] (r.1.toList ++ [.int 4, .ref 1]) r.2) else (q_sem d mX7_get 0 [.ref 8, .int x1, .int 0] [] (q_K o g)).bind (fun r => q_sem (d + 1) mX11_flight 77 [.ref 0, .int x1, .int x2, .int x3, .int x4, .int x5, .retAddr 0] (r.1.toList ++ [.int 5, .ref 1]) r.2))) := by
  refine (q_blk (Y := mX11_flight) (q_dcC dX11_flight_42 q_dcN) (show _ = some ((if q_cc .ne y0 0 = true then 51 else 45), [.ref 0, .int x1, .int x2, .int x3, .int x4, .int x5, .retAddr 0], []) from rfl)).trans ?_
  by_cases c1 : y0 = 0
  · rw [if_neg (show ¬ q_cc .ne y0 0 = true from fun z => (of_decide_eq_true z : ¬ y0 = 0) c1)]
    refine Eq.trans ?_ (if_pos c1).symm
    refine (q_blk (Y := mX11_flight) (q_dcC dX11_flight_45 (q_dcC dX11_flight_46 q_dcN)) (show _ = some (47, [.ref 0, .int x1, .int x2, .int x3, .int x4, .int x5, .retAddr 0], [.int 1, .ref 0]) from rfl)).trans ?_
    exact K_calV (d := d) (Y := mX11_flight) (Z := mX11_finding) (vs := [.int 1]) (rest := []) (la := [.ref 0, .int 1]) dX11_flight_47 rfl rfl rfl rfl ⟨by decide, rfl⟩ (Nat.le_of_ble_eq_true rfl) rfl (Nat.le_of_ble_eq_true rfl)
  · rw [if_pos (show q_cc .ne y0 0 = true from decide_eq_true c1)]
    refine Eq.trans ?_ (if_neg c1).symm
    refine (q_blk (Y := mX11_flight) (q_dcC dX11_flight_51 q_dcN) (show _ = some (52, [.ref 0, .int x1, .int x2, .int x3, .int x4, .int x5, .retAddr 0], [.ref 0]) from rfl)).trans ?_
    refine (k_getr (Y := mX11_flight) dX11_flight_52 rfl rfl ⟨by decide, rfl⟩ (by decide) rfl).trans ?_
    refine (q_blk (Y := mX11_flight) (q_dcC dX11_flight_55 (q_dcC dX11_flight_57 q_dcN)) (show _ = some ((if q_cc .eq x5 0 = true then 64 else 60), [.ref 0, .int x1, .int x2, .int x3, .int x4, .int x5, .retAddr 0], [.ref 1]) from rfl)).trans ?_
    by_cases c2 : x5 = 0
    · rw [if_pos (show q_cc .eq x5 0 = true from decide_eq_true c2)]
      refine Eq.trans ?_ (if_pos c2).symm
      refine (q_blk (Y := mX11_flight) (q_dcC dX11_flight_64 (q_dcC dX11_flight_65 q_dcN)) (show _ = some (66, [.ref 0, .int x1, .int x2, .int x3, .int x4, .int x5, .retAddr 0], [.ref 0, .int 4, .ref 1]) from rfl)).trans ?_
      refine (k_getr (Y := mX11_flight) dX11_flight_66 rfl rfl ⟨by decide, rfl⟩ (by decide) rfl).trans ?_
      refine (k_getr (Y := mX11_flight) dX11_flight_69 rfl rfl ⟨by decide, rfl⟩ (by decide) rfl).trans ?_
      refine (q_blk (Y := mX11_flight) (q_dcC dX11_flight_72 (q_dcC dX11_flight_73 q_dcN)) (show _ = some (74, [.ref 0, .int x1, .int x2, .int x3, .int x4, .int x5, .retAddr 0], [.int 0, .int x1, .ref 8, .int 4, .ref 1]) from rfl)).trans ?_
      exact K_calV (d := d) (Y := mX11_flight) (Z := mX7_get) (vs := [.int x1, .int 0]) (rest := [.int 4, .ref 1]) (la := [.ref 8, .int x1, .int 0]) dX11_flight_74 rfl rfl rfl rfl ⟨by decide, rfl⟩ (Nat.le_of_ble_eq_true rfl) rfl (Nat.le_of_ble_eq_true rfl)
    · rw [if_neg (show ¬ q_cc .eq x5 0 = true from fun z => c2 (of_decide_eq_true z))]
      refine Eq.trans ?_ (if_neg c2).symm
      refine (q_blk (Y := mX11_flight) (q_dcC dX11_flight_60 (q_dcC dX11_flight_61 q_dcN)) (show _ = some (65, [.ref 0, .int x1, .int x2, .int x3, .int x4, .int x5, .retAddr 0], [.int 5, .ref 1]) from rfl)).trans ?_
      refine (q_blk (Y := mX11_flight) (q_dcC dX11_flight_65 q_dcN) (show _ = some (66, [.ref 0, .int x1, .int x2, .int x3, .int x4, .int x5, .retAddr 0], [.ref 0, .int 5, .ref 1]) from rfl)).trans ?_
      refine (k_getr (Y := mX11_flight) dX11_flight_66 rfl rfl ⟨by decide, rfl⟩ (by decide) rfl).trans ?_
      refine (k_getr (Y := mX11_flight) dX11_flight_69 rfl rfl ⟨by decide, rfl⟩ (by decide) rfl).trans ?_
      refine (q_blk (Y := mX11_flight) (q_dcC dX11_flight_72 (q_dcC dX11_flight_73 q_dcN)) (show _ = some (74, [.ref 0, .int x1, .int x2, .int x3, .int x4, .int x5, .retAddr 0], [.int 0, .int x1, .ref 8, .int 5, .ref 1]) from rfl)).trans ?_
      exact K_calV (d := d) (Y := mX11_flight) (Z := mX7_get) (vs := [.int x1, .int 0]) (rest := [.int 5, .ref 1]) (la := [.ref 8, .int x1, .int 0]) dX11_flight_74 rfl rfl rfl rfl ⟨by decide, rfl⟩ (Nat.le_of_ble_eq_true rfl) rfl (Nat.le_of_ble_eq_true rfl)
theorem B_X11_flight_77 {o : q_H} (d : Nat) (x1 x2 x3 x4 x5 y0 y1 : Int32) (g : Nat → Nat → Int32) : q_sem (d + 1) mX11_flight 77 [.ref 0, .int x1, .int x2, .int x3, .int x4, .int x5, .retAddr 0] [.int y0, .int y1, .ref 1] (q_K o g) = (q_sem d mX10_addFlyer 0 [.ref 1, .int y1, .int y0, .int x4, .retAddr 0] [] (q_K o g)).bind (fun r => q_sem (d + 1) mX11_flight 82 [.ref 0, .int x1, .int x2, .int x3, .int x4, .int x5, .retAddr 0] (r.1.toList ++ []) r.2) := by
  refine (q_blk (Y := mX11_flight) (q_dcC dX11_flight_77 q_dcN) (show _ = some (79, [.ref 0, .int x1, .int x2, .int x3, .int x4, .int x5, .retAddr 0], [.int x4, .int y0, .int y1, .ref 1]) from rfl)).trans ?_
  exact K_calV (d := d) (Y := mX11_flight) (Z := mX10_addFlyer) (vs := [.int y1, .int y0, .int x4]) (rest := []) (la := [.ref 1, .int y1, .int y0, .int x4, .retAddr 0]) dX11_flight_79 rfl rfl rfl rfl ⟨by decide, rfl⟩ (Nat.le_of_ble_eq_true rfl) rfl (Nat.le_of_ble_eq_true rfl)
theorem B_X11_flight_82 {o : q_H} (d : Nat) (x1 x2 x3 x4 x5 y0 : Int32) (g : Nat → Nat → Int32) : q_sem (d + 1) mX11_flight 82 [.ref 0, .int x1, .int x2, .int x3, .int x4, .int x5, .retAddr 0] [.int y0] (q_K o g) = (if 0 ≤ y0 then (q_sem d mX7_write 0 [.ref 12, .int y0, .int 6, .int 1] [] (q_K o g)).bind (fun r => q_sem (d + 1) mX11_flight 110 [.ref 0, .int x1, .int x2, .int x3, .int x4, .int x5, .int y0] (r.1.toList ++ []) r.2) else (q_sem d mX11_finding 0 [.ref 0, .int 4] [] (q_K o g)).bind (fun r => q_sem (d + 1) mX11_flight 94 [.ref 0, .int x1, .int x2, .int x3, .int x4, .int x5, .int y0] (r.1.toList ++ []) r.2)) := by
  refine (q_blk (Y := mX11_flight) (q_dcC dX11_flight_82 (q_dcC dX11_flight_84 (q_dcC dX11_flight_86 q_dcN))) (show _ = some ((if q_cc .ge y0 0 = true then 95 else 89), [.ref 0, .int x1, .int x2, .int x3, .int x4, .int x5, .int y0], []) from rfl)).trans ?_
  by_cases c1 : 0 ≤ y0
  · rw [if_pos (show q_cc .ge y0 0 = true from decide_eq_true c1)]
    refine Eq.trans ?_ (if_pos c1).symm
    refine (q_blk (Y := mX11_flight) (q_dcC dX11_flight_95 q_dcN) (show _ = some (96, [.ref 0, .int x1, .int x2, .int x3, .int x4, .int x5, .int y0], [.ref 0]) from rfl)).trans ?_
    refine (k_getr (Y := mX11_flight) dX11_flight_96 rfl rfl ⟨by decide, rfl⟩ (by decide) rfl).trans ?_
    refine (k_getr (Y := mX11_flight) dX11_flight_99 rfl rfl ⟨by decide, rfl⟩ (by decide) rfl).trans ?_
    refine (q_blk (Y := mX11_flight) (q_dcC dX11_flight_102 (q_dcC dX11_flight_104 (q_dcC dX11_flight_106 q_dcN))) (show _ = some (107, [.ref 0, .int x1, .int x2, .int x3, .int x4, .int x5, .int y0], [.int 1, .int 6, .int y0, .ref 12]) from rfl)).trans ?_
    exact K_calV (d := d) (Y := mX11_flight) (Z := mX7_write) (vs := [.int y0, .int 6, .int 1]) (rest := []) (la := [.ref 12, .int y0, .int 6, .int 1]) dX11_flight_107 rfl rfl rfl rfl ⟨by decide, rfl⟩ (Nat.le_of_ble_eq_true rfl) rfl (Nat.le_of_ble_eq_true rfl)
  · rw [if_neg (show ¬ q_cc .ge y0 0 = true from fun z => c1 (of_decide_eq_true z))]
    refine Eq.trans ?_ (if_neg c1).symm
    refine (q_blk (Y := mX11_flight) (q_dcC dX11_flight_89 (q_dcC dX11_flight_90 q_dcN)) (show _ = some (91, [.ref 0, .int x1, .int x2, .int x3, .int x4, .int x5, .int y0], [.int 4, .ref 0]) from rfl)).trans ?_
    exact K_calV (d := d) (Y := mX11_flight) (Z := mX11_finding) (vs := [.int 4]) (rest := []) (la := [.ref 0, .int 4]) dX11_flight_91 rfl rfl rfl rfl ⟨by decide, rfl⟩ (Nat.le_of_ble_eq_true rfl) rfl (Nat.le_of_ble_eq_true rfl)
theorem B_X11_flight_110 {o : q_H} (d : Nat) (x1 x2 x3 x4 x5 x6 : Int32) (g : Nat → Nat → Int32) : q_sem (d + 1) mX11_flight 110 [.ref 0, .int x1, .int x2, .int x3, .int x4, .int x5, .int x6] [] (q_K o g) = (q_sem d mX7_write 0 [.ref 12, .int x6, .int 11, .int x1] [] (q_K o g)).bind (fun r => q_sem (d + 1) mX11_flight 125 [.ref 0, .int x1, .int x2, .int x3, .int x4, .int x5, .int x6] (r.1.toList ++ []) r.2) := by
  refine (q_blk (Y := mX11_flight) (q_dcC dX11_flight_110 q_dcN) (show _ = some (111, [.ref 0, .int x1, .int x2, .int x3, .int x4, .int x5, .int x6], [.ref 0]) from rfl)).trans ?_
  refine (k_getr (Y := mX11_flight) dX11_flight_111 rfl rfl ⟨by decide, rfl⟩ (by decide) rfl).trans ?_
  refine (k_getr (Y := mX11_flight) dX11_flight_114 rfl rfl ⟨by decide, rfl⟩ (by decide) rfl).trans ?_
  refine (q_blk (Y := mX11_flight) (q_dcC dX11_flight_117 (q_dcC dX11_flight_119 (q_dcC dX11_flight_121 q_dcN))) (show _ = some (122, [.ref 0, .int x1, .int x2, .int x3, .int x4, .int x5, .int x6], [.int x1, .int 11, .int x6, .ref 12]) from rfl)).trans ?_
  exact K_calV (d := d) (Y := mX11_flight) (Z := mX7_write) (vs := [.int x6, .int 11, .int x1]) (rest := []) (la := [.ref 12, .int x6, .int 11, .int x1]) dX11_flight_122 rfl rfl rfl rfl ⟨by decide, rfl⟩ (Nat.le_of_ble_eq_true rfl) rfl (Nat.le_of_ble_eq_true rfl)
theorem B_X11_flight_94 {o : q_H} (d : Nat) (x1 x2 x3 x4 x5 x6 y0 : Int32) (g : Nat → Nat → Int32) : q_sem (d) mX11_flight 94 [.ref 0, .int x1, .int x2, .int x3, .int x4, .int x5, .int x6] [.int y0] (q_K o g) = some (some (.int y0), q_K o g) := by
  exact k_iret (Y := mX11_flight) dX11_flight_94 rfl
theorem B_X11_flight_125 {o : q_H} (d : Nat) (x1 x2 x3 x4 x5 x6 : Int32) (g : Nat → Nat → Int32) : q_sem (d + 1) mX11_flight 125 [.ref 0, .int x1, .int x2, .int x3, .int x4, .int x5, .int x6] [] (q_K o g) = (q_sem d mX11_load 0 [.ref 0, .int x6, .int x2, .int x3] [] (q_K o g)).bind (fun r => q_sem (d + 1) mX11_flight 133 [.ref 0, .int x1, .int x2, .int x3, .int x4, .int x5, .int x6] (r.1.toList ++ []) r.2) := by
  refine (q_blk (Y := mX11_flight) (q_dcC dX11_flight_125 (q_dcC dX11_flight_126 (q_dcC dX11_flight_128 (q_dcC dX11_flight_129 q_dcN)))) (show _ = some (130, [.ref 0, .int x1, .int x2, .int x3, .int x4, .int x5, .int x6], [.int x3, .int x2, .int x6, .ref 0]) from rfl)).trans ?_
  exact K_calV (d := d) (Y := mX11_flight) (Z := mX11_load) (vs := [.int x6, .int x2, .int x3]) (rest := []) (la := [.ref 0, .int x6, .int x2, .int x3]) dX11_flight_130 rfl rfl rfl rfl ⟨by decide, rfl⟩ (Nat.le_of_ble_eq_true rfl) rfl (Nat.le_of_ble_eq_true rfl)
theorem B_X11_flight_133 {o : q_H} (d : Nat) (x1 x2 x3 x4 x5 x6 : Int32) (g : Nat → Nat → Int32) : q_sem (d) mX11_flight 133 [.ref 0, .int x1, .int x2, .int x3, .int x4, .int x5, .int x6] [] (q_K o g) = some (some (.int x6), q_K o g) := by
  refine (q_blk (Y := mX11_flight) (q_dcC dX11_flight_133 q_dcN) (show _ = some (135, [.ref 0, .int x1, .int x2, .int x3, .int x4, .int x5, .int x6], [.int x6]) from rfl)).trans ?_
  exact k_iret (Y := mX11_flight) dX11_flight_135 rfl
theorem B_X11_load_0 {o : q_H} (d : Nat) (x1 x2 x3 : Int32) (g : Nat → Nat → Int32) : q_sem (d + 1) mX11_load 0 [.ref 0, .int x1, .int x2, .int x3] [] (q_K o g) = (q_sem d mX7_write 0 [.ref 12, .int x1, .int 7, .int x2] [] (q_K o g)).bind (fun r => q_sem (d + 1) mX11_load 14 [.ref 0, .int x1, .int x2, .int x3] (r.1.toList ++ []) r.2) := by
  refine (q_blk (Y := mX11_load) (q_dcC dX11_load_0 q_dcN) (show _ = some (1, [.ref 0, .int x1, .int x2, .int x3], [.ref 0]) from rfl)).trans ?_
  refine (k_getr (Y := mX11_load) dX11_load_1 rfl rfl ⟨by decide, rfl⟩ (by decide) rfl).trans ?_
  refine (k_getr (Y := mX11_load) dX11_load_4 rfl rfl ⟨by decide, rfl⟩ (by decide) rfl).trans ?_
  refine (q_blk (Y := mX11_load) (q_dcC dX11_load_7 (q_dcC dX11_load_8 (q_dcC dX11_load_10 q_dcN))) (show _ = some (11, [.ref 0, .int x1, .int x2, .int x3], [.int x2, .int 7, .int x1, .ref 12]) from rfl)).trans ?_
  exact K_calV (d := d) (Y := mX11_load) (Z := mX7_write) (vs := [.int x1, .int 7, .int x2]) (rest := []) (la := [.ref 12, .int x1, .int 7, .int x2]) dX11_load_11 rfl rfl rfl rfl ⟨by decide, rfl⟩ (Nat.le_of_ble_eq_true rfl) rfl (Nat.le_of_ble_eq_true rfl)
theorem B_X11_load_14 {o : q_H} (d : Nat) (x1 x2 x3 : Int32) (g : Nat → Nat → Int32) : q_sem (d + 1) mX11_load 14 [.ref 0, .int x1, .int x2, .int x3] [] (q_K o g) = (q_sem d mX7_write 0 [.ref 12, .int x1, .int 8, .int x3] [] (q_K o g)).bind (fun r => q_sem (d + 1) mX11_load 28 [.ref 0, .int x1, .int x2, .int x3] (r.1.toList ++ []) r.2) := by
  refine (q_blk (Y := mX11_load) (q_dcC dX11_load_14 q_dcN) (show _ = some (15, [.ref 0, .int x1, .int x2, .int x3], [.ref 0]) from rfl)).trans ?_
  refine (k_getr (Y := mX11_load) dX11_load_15 rfl rfl ⟨by decide, rfl⟩ (by decide) rfl).trans ?_
  refine (k_getr (Y := mX11_load) dX11_load_18 rfl rfl ⟨by decide, rfl⟩ (by decide) rfl).trans ?_
  refine (q_blk (Y := mX11_load) (q_dcC dX11_load_21 (q_dcC dX11_load_22 (q_dcC dX11_load_24 q_dcN))) (show _ = some (25, [.ref 0, .int x1, .int x2, .int x3], [.int x3, .int 8, .int x1, .ref 12]) from rfl)).trans ?_
  exact K_calV (d := d) (Y := mX11_load) (Z := mX7_write) (vs := [.int x1, .int 8, .int x3]) (rest := []) (la := [.ref 12, .int x1, .int 8, .int x3]) dX11_load_25 rfl rfl rfl rfl ⟨by decide, rfl⟩ (Nat.le_of_ble_eq_true rfl) rfl (Nat.le_of_ble_eq_true rfl)
theorem B_X11_load_28 {o : q_H} (d : Nat) (x1 x2 x3 : Int32) (g : Nat → Nat → Int32) : q_sem (d) mX11_load 28 [.ref 0, .int x1, .int x2, .int x3] [] (q_K o g) = some (none, q_K o g) := by
  exact k_vret (Y := mX11_load) dX11_load_28 rfl
theorem B_X11_as_0 {o : q_H} (d : Nat) (x1 x2 : Int32) (g : Nat → Nat → Int32) : q_sem (d + 1) mX11_as 0 [.ref 0, .int x1, .int x2] [] (q_K o g) = (q_sem d mX7_has 0 [.ref 12, .int x1] [] (q_K o g)).bind (fun r => q_sem (d + 1) mX11_as 11 [.ref 0, .int x1, .int x2] (r.1.toList ++ []) r.2) := by
  refine (q_blk (Y := mX11_as) (q_dcC dX11_as_0 q_dcN) (show _ = some (1, [.ref 0, .int x1, .int x2], [.ref 0]) from rfl)).trans ?_
  refine (k_getr (Y := mX11_as) dX11_as_1 rfl rfl ⟨by decide, rfl⟩ (by decide) rfl).trans ?_
  refine (k_getr (Y := mX11_as) dX11_as_4 rfl rfl ⟨by decide, rfl⟩ (by decide) rfl).trans ?_
  refine (q_blk (Y := mX11_as) (q_dcC dX11_as_7 q_dcN) (show _ = some (8, [.ref 0, .int x1, .int x2], [.int x1, .ref 12]) from rfl)).trans ?_
  exact K_calV (d := d) (Y := mX11_as) (Z := mX7_has) (vs := [.int x1]) (rest := []) (la := [.ref 12, .int x1]) dX11_as_8 rfl rfl rfl rfl ⟨by decide, rfl⟩ (Nat.le_of_ble_eq_true rfl) rfl (Nat.le_of_ble_eq_true rfl)
theorem B_X11_as_11 {o : q_H} (d : Nat) (x1 x2 y0 : Int32) (g : Nat → Nat → Int32) : q_sem (d + 1) mX11_as 11 [.ref 0, .int x1, .int x2] [.int y0] (q_K o g) = (if y0 = 0 then (q_sem d mX11_finding 0 [.ref 0, .int 1] [] (q_K o g)).bind (fun r => q_sem (d + 1) mX11_as 28 [.ref 0, .int x1, .int x2] (r.1.toList ++ []) r.2) else (q_sem d mX11_within 0 [.int x2, .int 0, .int 5] [] (q_K o g)).bind (fun r => q_sem (d + 1) mX11_as 20 [.ref 0, .int x1, .int x2] (r.1.toList ++ []) r.2)) := by
  refine (q_blk (Y := mX11_as) (q_dcC dX11_as_11 q_dcN) (show _ = some ((if q_cc .eq y0 0 = true then 23 else 14), [.ref 0, .int x1, .int x2], []) from rfl)).trans ?_
  by_cases c1 : y0 = 0
  · rw [if_pos (show q_cc .eq y0 0 = true from decide_eq_true c1)]
    refine Eq.trans ?_ (if_pos c1).symm
    refine (q_blk (Y := mX11_as) (q_dcC dX11_as_23 (q_dcC dX11_as_24 q_dcN)) (show _ = some (25, [.ref 0, .int x1, .int x2], [.int 1, .ref 0]) from rfl)).trans ?_
    exact K_calV (d := d) (Y := mX11_as) (Z := mX11_finding) (vs := [.int 1]) (rest := []) (la := [.ref 0, .int 1]) dX11_as_25 rfl rfl rfl rfl ⟨by decide, rfl⟩ (Nat.le_of_ble_eq_true rfl) rfl (Nat.le_of_ble_eq_true rfl)
  · rw [if_neg (show ¬ q_cc .eq y0 0 = true from fun z => c1 (of_decide_eq_true z))]
    refine Eq.trans ?_ (if_neg c1).symm
    refine (q_blk (Y := mX11_as) (q_dcC dX11_as_14 (q_dcC dX11_as_15 (q_dcC dX11_as_16 q_dcN))) (show _ = some (17, [.ref 0, .int x1, .int x2], [.int 5, .int 0, .int x2]) from rfl)).trans ?_
    exact K_calS (d := d) (Y := mX11_as) (Z := mX11_within) (vs := [.int x2, .int 0, .int 5]) (rest := []) (la := [.int x2, .int 0, .int 5]) dX11_as_17 rfl rfl rfl rfl (Nat.le_of_ble_eq_true rfl) rfl (Nat.le_of_ble_eq_true rfl)
theorem B_X11_as_28 {o : q_H} (d : Nat) (x1 x2 y0 : Int32) (g : Nat → Nat → Int32) : q_sem (d) mX11_as 28 [.ref 0, .int x1, .int x2] [.int y0] (q_K o g) = some (some (.int y0), q_K o g) := by
  exact k_iret (Y := mX11_as) dX11_as_28 rfl
theorem B_X11_as_20 {o : q_H} (d : Nat) (x1 x2 y0 : Int32) (g : Nat → Nat → Int32) : q_sem (d + 1) mX11_as 20 [.ref 0, .int x1, .int x2] [.int y0] (q_K o g) = (if y0 = 0 then (q_sem d mX11_finding 0 [.ref 0, .int 1] [] (q_K o g)).bind (fun r => q_sem (d + 1) mX11_as 28 [.ref 0, .int x1, .int x2] (r.1.toList ++ []) r.2) else (q_sem d mX10_isA 0 [.ref 1, .int x1, .int x2, .retAddr 0, .retAddr 0] [] (q_K o g)).bind (fun r => q_sem (d + 1) mX11_as 38 [.ref 0, .int x1, .int x2] (r.1.toList ++ []) r.2)) := by
  refine (q_blk (Y := mX11_as) (q_dcC dX11_as_20 q_dcN) (show _ = some ((if q_cc .ne y0 0 = true then 29 else 23), [.ref 0, .int x1, .int x2], []) from rfl)).trans ?_
  by_cases c1 : y0 = 0
  · rw [if_neg (show ¬ q_cc .ne y0 0 = true from fun z => (of_decide_eq_true z : ¬ y0 = 0) c1)]
    refine Eq.trans ?_ (if_pos c1).symm
    refine (q_blk (Y := mX11_as) (q_dcC dX11_as_23 (q_dcC dX11_as_24 q_dcN)) (show _ = some (25, [.ref 0, .int x1, .int x2], [.int 1, .ref 0]) from rfl)).trans ?_
    exact K_calV (d := d) (Y := mX11_as) (Z := mX11_finding) (vs := [.int 1]) (rest := []) (la := [.ref 0, .int 1]) dX11_as_25 rfl rfl rfl rfl ⟨by decide, rfl⟩ (Nat.le_of_ble_eq_true rfl) rfl (Nat.le_of_ble_eq_true rfl)
  · rw [if_pos (show q_cc .ne y0 0 = true from decide_eq_true c1)]
    refine Eq.trans ?_ (if_neg c1).symm
    refine (q_blk (Y := mX11_as) (q_dcC dX11_as_29 q_dcN) (show _ = some (30, [.ref 0, .int x1, .int x2], [.ref 0]) from rfl)).trans ?_
    refine (k_getr (Y := mX11_as) dX11_as_30 rfl rfl ⟨by decide, rfl⟩ (by decide) rfl).trans ?_
    refine (q_blk (Y := mX11_as) (q_dcC dX11_as_33 (q_dcC dX11_as_34 q_dcN)) (show _ = some (35, [.ref 0, .int x1, .int x2], [.int x2, .int x1, .ref 1]) from rfl)).trans ?_
    exact K_calV (d := d) (Y := mX11_as) (Z := mX10_isA) (vs := [.int x1, .int x2]) (rest := []) (la := [.ref 1, .int x1, .int x2, .retAddr 0, .retAddr 0]) dX11_as_35 rfl rfl rfl rfl ⟨by decide, rfl⟩ (Nat.le_of_ble_eq_true rfl) rfl (Nat.le_of_ble_eq_true rfl)
theorem B_X11_as_38 {o : q_H} (d : Nat) (x1 x2 y0 : Int32) (g : Nat → Nat → Int32) : q_sem (d + 1) mX11_as 38 [.ref 0, .int x1, .int x2] [.int y0] (q_K o g) = (if y0 = 0 then (q_sem d mX11_finding 0 [.ref 0, .int 5] [] (q_K o g)).bind (fun r => q_sem (d + 1) mX11_as 61 [.ref 0, .int x1, .int x2] (r.1.toList ++ []) r.2) else (q_sem d mX7_get 0 [.ref 12, .int x1, .int 5] [] (q_K o g)).bind (fun r => q_sem (d + 1) mX11_as 53 [.ref 0, .int x1, .int x2] (r.1.toList ++ []) r.2)) := by
  refine (q_blk (Y := mX11_as) (q_dcC dX11_as_38 q_dcN) (show _ = some ((if q_cc .eq y0 0 = true then 56 else 41), [.ref 0, .int x1, .int x2], []) from rfl)).trans ?_
  by_cases c1 : y0 = 0
  · rw [if_pos (show q_cc .eq y0 0 = true from decide_eq_true c1)]
    refine Eq.trans ?_ (if_pos c1).symm
    refine (q_blk (Y := mX11_as) (q_dcC dX11_as_56 (q_dcC dX11_as_57 q_dcN)) (show _ = some (58, [.ref 0, .int x1, .int x2], [.int 5, .ref 0]) from rfl)).trans ?_
    exact K_calV (d := d) (Y := mX11_as) (Z := mX11_finding) (vs := [.int 5]) (rest := []) (la := [.ref 0, .int 5]) dX11_as_58 rfl rfl rfl rfl ⟨by decide, rfl⟩ (Nat.le_of_ble_eq_true rfl) rfl (Nat.le_of_ble_eq_true rfl)
  · rw [if_neg (show ¬ q_cc .eq y0 0 = true from fun z => c1 (of_decide_eq_true z))]
    refine Eq.trans ?_ (if_neg c1).symm
    refine (q_blk (Y := mX11_as) (q_dcC dX11_as_41 q_dcN) (show _ = some (42, [.ref 0, .int x1, .int x2], [.ref 0]) from rfl)).trans ?_
    refine (k_getr (Y := mX11_as) dX11_as_42 rfl rfl ⟨by decide, rfl⟩ (by decide) rfl).trans ?_
    refine (k_getr (Y := mX11_as) dX11_as_45 rfl rfl ⟨by decide, rfl⟩ (by decide) rfl).trans ?_
    refine (q_blk (Y := mX11_as) (q_dcC dX11_as_48 (q_dcC dX11_as_49 q_dcN)) (show _ = some (50, [.ref 0, .int x1, .int x2], [.int 5, .int x1, .ref 12]) from rfl)).trans ?_
    exact K_calV (d := d) (Y := mX11_as) (Z := mX7_get) (vs := [.int x1, .int 5]) (rest := []) (la := [.ref 12, .int x1, .int 5]) dX11_as_50 rfl rfl rfl rfl ⟨by decide, rfl⟩ (Nat.le_of_ble_eq_true rfl) rfl (Nat.le_of_ble_eq_true rfl)
theorem B_X11_as_61 {o : q_H} (d : Nat) (x1 x2 y0 : Int32) (g : Nat → Nat → Int32) : q_sem (d) mX11_as 61 [.ref 0, .int x1, .int x2] [.int y0] (q_K o g) = some (some (.int y0), q_K o g) := by
  exact k_iret (Y := mX11_as) dX11_as_61 rfl
theorem B_X11_as_53 {o : q_H} (d : Nat) (x1 x2 y0 : Int32) (g : Nat → Nat → Int32) : q_sem (d) mX11_as 53 [.ref 0, .int x1, .int x2] [.int y0] (q_K o g) = some (some (.int y0), q_K o g) := by
  refine (q_blk (Y := mX11_as) (q_dcC dX11_as_53 q_dcN) (show _ = some (61, [.ref 0, .int x1, .int x2], [.int y0]) from rfl)).trans ?_
  exact k_iret (Y := mX11_as) dX11_as_61 rfl
theorem B_X11_flyerIs_0 {o : q_H} (d : Nat) (x1 x2 : Int32) (g : Nat → Nat → Int32) : q_sem (d + 1) mX11_flyerIs 0 [.ref 0, .int x1, .int x2] [] (q_K o g) = (q_sem d mX7_has 0 [.ref 12, .int x1] [] (q_K o g)).bind (fun r => q_sem (d + 1) mX11_flyerIs 11 [.ref 0, .int x1, .int x2] (r.1.toList ++ []) r.2) := by
  refine (q_blk (Y := mX11_flyerIs) (q_dcC dX11_flyerIs_0 q_dcN) (show _ = some (1, [.ref 0, .int x1, .int x2], [.ref 0]) from rfl)).trans ?_
  refine (k_getr (Y := mX11_flyerIs) dX11_flyerIs_1 rfl rfl ⟨by decide, rfl⟩ (by decide) rfl).trans ?_
  refine (k_getr (Y := mX11_flyerIs) dX11_flyerIs_4 rfl rfl ⟨by decide, rfl⟩ (by decide) rfl).trans ?_
  refine (q_blk (Y := mX11_flyerIs) (q_dcC dX11_flyerIs_7 q_dcN) (show _ = some (8, [.ref 0, .int x1, .int x2], [.int x1, .ref 12]) from rfl)).trans ?_
  exact K_calV (d := d) (Y := mX11_flyerIs) (Z := mX7_has) (vs := [.int x1]) (rest := []) (la := [.ref 12, .int x1]) dX11_flyerIs_8 rfl rfl rfl rfl ⟨by decide, rfl⟩ (Nat.le_of_ble_eq_true rfl) rfl (Nat.le_of_ble_eq_true rfl)
theorem B_X11_flyerIs_11 {o : q_H} (d : Nat) (x1 x2 y0 : Int32) (g : Nat → Nat → Int32) : q_sem (d + 1) mX11_flyerIs 11 [.ref 0, .int x1, .int x2] [.int y0] (q_K o g) = (if y0 = 0 then (q_sem d mX11_finding 0 [.ref 0, .int 1] [] (q_K o g)).bind (fun r => q_sem (d + 1) mX11_flyerIs 29 [.ref 0, .int x1, .int x2] (r.1.toList ++ []) r.2) else (q_sem d mX11_within 0 [.int x2, .int 0, .int 11] [] (q_K o g)).bind (fun r => q_sem (d + 1) mX11_flyerIs 21 [.ref 0, .int x1, .int x2] (r.1.toList ++ []) r.2)) := by
  refine (q_blk (Y := mX11_flyerIs) (q_dcC dX11_flyerIs_11 q_dcN) (show _ = some ((if q_cc .eq y0 0 = true then 24 else 14), [.ref 0, .int x1, .int x2], []) from rfl)).trans ?_
  by_cases c1 : y0 = 0
  · rw [if_pos (show q_cc .eq y0 0 = true from decide_eq_true c1)]
    refine Eq.trans ?_ (if_pos c1).symm
    refine (q_blk (Y := mX11_flyerIs) (q_dcC dX11_flyerIs_24 (q_dcC dX11_flyerIs_25 q_dcN)) (show _ = some (26, [.ref 0, .int x1, .int x2], [.int 1, .ref 0]) from rfl)).trans ?_
    exact K_calV (d := d) (Y := mX11_flyerIs) (Z := mX11_finding) (vs := [.int 1]) (rest := []) (la := [.ref 0, .int 1]) dX11_flyerIs_26 rfl rfl rfl rfl ⟨by decide, rfl⟩ (Nat.le_of_ble_eq_true rfl) rfl (Nat.le_of_ble_eq_true rfl)
  · rw [if_neg (show ¬ q_cc .eq y0 0 = true from fun z => c1 (of_decide_eq_true z))]
    refine Eq.trans ?_ (if_neg c1).symm
    refine (q_blk (Y := mX11_flyerIs) (q_dcC dX11_flyerIs_14 (q_dcC dX11_flyerIs_15 (q_dcC dX11_flyerIs_16 q_dcN))) (show _ = some (18, [.ref 0, .int x1, .int x2], [.int 11, .int 0, .int x2]) from rfl)).trans ?_
    exact K_calS (d := d) (Y := mX11_flyerIs) (Z := mX11_within) (vs := [.int x2, .int 0, .int 11]) (rest := []) (la := [.int x2, .int 0, .int 11]) dX11_flyerIs_18 rfl rfl rfl rfl (Nat.le_of_ble_eq_true rfl) rfl (Nat.le_of_ble_eq_true rfl)
theorem B_X11_flyerIs_29 {o : q_H} (d : Nat) (x1 x2 y0 : Int32) (g : Nat → Nat → Int32) : q_sem (d) mX11_flyerIs 29 [.ref 0, .int x1, .int x2] [.int y0] (q_K o g) = some (some (.int y0), q_K o g) := by
  exact k_iret (Y := mX11_flyerIs) dX11_flyerIs_29 rfl
theorem B_X11_flyerIs_21 {o : q_H} (d : Nat) (x1 x2 y0 : Int32) (g : Nat → Nat → Int32) : q_sem (d + 1) mX11_flyerIs 21 [.ref 0, .int x1, .int x2] [.int y0] (q_K o g) = (if y0 = 0 then (q_sem d mX11_finding 0 [.ref 0, .int 1] [] (q_K o g)).bind (fun r => q_sem (d + 1) mX11_flyerIs 29 [.ref 0, .int x1, .int x2] (r.1.toList ++ []) r.2) else (if x2 = 11 then (q_sem d mX10_isHostile 0 [.ref 1, .int x1, .retAddr 0] [] (q_K o g)).bind (fun r => q_sem (d + 1) mX11_flyerIs 44 [.ref 0, .int x1, .int x2] (r.1.toList ++ []) r.2) else (q_sem d mX7_get 0 [.ref 12, .int x1, .int x2] [] (q_K o g)).bind (fun r => q_sem (d + 1) mX11_flyerIs 65 [.ref 0, .int x1, .int x2] (r.1.toList ++ []) r.2))) := by
  refine (q_blk (Y := mX11_flyerIs) (q_dcC dX11_flyerIs_21 q_dcN) (show _ = some ((if q_cc .ne y0 0 = true then 30 else 24), [.ref 0, .int x1, .int x2], []) from rfl)).trans ?_
  by_cases c1 : y0 = 0
  · rw [if_neg (show ¬ q_cc .ne y0 0 = true from fun z => (of_decide_eq_true z : ¬ y0 = 0) c1)]
    refine Eq.trans ?_ (if_pos c1).symm
    refine (q_blk (Y := mX11_flyerIs) (q_dcC dX11_flyerIs_24 (q_dcC dX11_flyerIs_25 q_dcN)) (show _ = some (26, [.ref 0, .int x1, .int x2], [.int 1, .ref 0]) from rfl)).trans ?_
    exact K_calV (d := d) (Y := mX11_flyerIs) (Z := mX11_finding) (vs := [.int 1]) (rest := []) (la := [.ref 0, .int 1]) dX11_flyerIs_26 rfl rfl rfl rfl ⟨by decide, rfl⟩ (Nat.le_of_ble_eq_true rfl) rfl (Nat.le_of_ble_eq_true rfl)
  · rw [if_pos (show q_cc .ne y0 0 = true from decide_eq_true c1)]
    refine Eq.trans ?_ (if_neg c1).symm
    refine (q_blk (Y := mX11_flyerIs) (q_dcC dX11_flyerIs_30 (q_dcC dX11_flyerIs_31 (q_dcC dX11_flyerIs_33 q_dcN))) (show _ = some ((if q_cc .ne x2 11 = true then 53 else 36), [.ref 0, .int x1, .int x2], []) from rfl)).trans ?_
    by_cases c2 : x2 = 11
    · rw [if_neg (show ¬ q_cc .ne x2 11 = true from fun z => (of_decide_eq_true z : ¬ x2 = 11) c2)]
      refine Eq.trans ?_ (if_pos c2).symm
      refine (q_blk (Y := mX11_flyerIs) (q_dcC dX11_flyerIs_36 q_dcN) (show _ = some (37, [.ref 0, .int x1, .int x2], [.ref 0]) from rfl)).trans ?_
      refine (k_getr (Y := mX11_flyerIs) dX11_flyerIs_37 rfl rfl ⟨by decide, rfl⟩ (by decide) rfl).trans ?_
      refine (q_blk (Y := mX11_flyerIs) (q_dcC dX11_flyerIs_40 q_dcN) (show _ = some (41, [.ref 0, .int x1, .int x2], [.int x1, .ref 1]) from rfl)).trans ?_
      exact K_calV (d := d) (Y := mX11_flyerIs) (Z := mX10_isHostile) (vs := [.int x1]) (rest := []) (la := [.ref 1, .int x1, .retAddr 0]) dX11_flyerIs_41 rfl rfl rfl rfl ⟨by decide, rfl⟩ (Nat.le_of_ble_eq_true rfl) rfl (Nat.le_of_ble_eq_true rfl)
    · rw [if_pos (show q_cc .ne x2 11 = true from decide_eq_true c2)]
      refine Eq.trans ?_ (if_neg c2).symm
      refine (q_blk (Y := mX11_flyerIs) (q_dcC dX11_flyerIs_53 q_dcN) (show _ = some (54, [.ref 0, .int x1, .int x2], [.ref 0]) from rfl)).trans ?_
      refine (k_getr (Y := mX11_flyerIs) dX11_flyerIs_54 rfl rfl ⟨by decide, rfl⟩ (by decide) rfl).trans ?_
      refine (k_getr (Y := mX11_flyerIs) dX11_flyerIs_57 rfl rfl ⟨by decide, rfl⟩ (by decide) rfl).trans ?_
      refine (q_blk (Y := mX11_flyerIs) (q_dcC dX11_flyerIs_60 (q_dcC dX11_flyerIs_61 q_dcN)) (show _ = some (62, [.ref 0, .int x1, .int x2], [.int x2, .int x1, .ref 12]) from rfl)).trans ?_
      exact K_calV (d := d) (Y := mX11_flyerIs) (Z := mX7_get) (vs := [.int x1, .int x2]) (rest := []) (la := [.ref 12, .int x1, .int x2]) dX11_flyerIs_62 rfl rfl rfl rfl ⟨by decide, rfl⟩ (Nat.le_of_ble_eq_true rfl) rfl (Nat.le_of_ble_eq_true rfl)
theorem B_X11_flyerIs_44 {o : q_H} (d : Nat) (x1 x2 y0 : Int32) (g : Nat → Nat → Int32) : q_sem (d) mX11_flyerIs 44 [.ref 0, .int x1, .int x2] [.int y0] (q_K o g) = (if y0 = 0 then some (some (.int 0), q_K o g) else some (some (.int 1), q_K o g)) := by
  refine (q_blk (Y := mX11_flyerIs) (q_dcC dX11_flyerIs_44 q_dcN) (show _ = some ((if q_cc .eq y0 0 = true then 51 else 47), [.ref 0, .int x1, .int x2], []) from rfl)).trans ?_
  by_cases c1 : y0 = 0
  · rw [if_pos (show q_cc .eq y0 0 = true from decide_eq_true c1)]
    refine Eq.trans ?_ (if_pos c1).symm
    refine (q_blk (Y := mX11_flyerIs) (q_dcC dX11_flyerIs_51 q_dcN) (show _ = some (52, [.ref 0, .int x1, .int x2], [.int 0]) from rfl)).trans ?_
    exact k_iret (Y := mX11_flyerIs) dX11_flyerIs_52 rfl
  · rw [if_neg (show ¬ q_cc .eq y0 0 = true from fun z => c1 (of_decide_eq_true z))]
    refine Eq.trans ?_ (if_neg c1).symm
    refine (q_blk (Y := mX11_flyerIs) (q_dcC dX11_flyerIs_47 (q_dcC dX11_flyerIs_48 q_dcN)) (show _ = some (52, [.ref 0, .int x1, .int x2], [.int 1]) from rfl)).trans ?_
    exact k_iret (Y := mX11_flyerIs) dX11_flyerIs_52 rfl
theorem B_X11_flyerIs_65 {o : q_H} (d : Nat) (x1 x2 y0 : Int32) (g : Nat → Nat → Int32) : q_sem (d) mX11_flyerIs 65 [.ref 0, .int x1, .int x2] [.int y0] (q_K o g) = some (some (.int y0), q_K o g) := by
  exact k_iret (Y := mX11_flyerIs) dX11_flyerIs_65 rfl
theorem B_X11_answer_0 {o : q_H} (d : Nat) (x1 x2 : Int32) (g : Nat → Nat → Int32) : q_sem (d + 1) mX11_answer 0 [.ref 0, .int x1, .int x2] [] (q_K o g) = (q_sem d mX7_has 0 [.ref 12, .int x1] [] (q_K o g)).bind (fun r => q_sem (d + 1) mX11_answer 11 [.ref 0, .int x1, .int x2] (r.1.toList ++ []) r.2) := by
  refine (q_blk (Y := mX11_answer) (q_dcC dX11_answer_0 q_dcN) (show _ = some (1, [.ref 0, .int x1, .int x2], [.ref 0]) from rfl)).trans ?_
  refine (k_getr (Y := mX11_answer) dX11_answer_1 rfl rfl ⟨by decide, rfl⟩ (by decide) rfl).trans ?_
  refine (k_getr (Y := mX11_answer) dX11_answer_4 rfl rfl ⟨by decide, rfl⟩ (by decide) rfl).trans ?_
  refine (q_blk (Y := mX11_answer) (q_dcC dX11_answer_7 q_dcN) (show _ = some (8, [.ref 0, .int x1, .int x2], [.int x1, .ref 12]) from rfl)).trans ?_
  exact K_calV (d := d) (Y := mX11_answer) (Z := mX7_has) (vs := [.int x1]) (rest := []) (la := [.ref 12, .int x1]) dX11_answer_8 rfl rfl rfl rfl ⟨by decide, rfl⟩ (Nat.le_of_ble_eq_true rfl) rfl (Nat.le_of_ble_eq_true rfl)
theorem B_X11_answer_11 {o : q_H} (d : Nat) (x1 x2 y0 : Int32) (g : Nat → Nat → Int32) : q_sem (d + 1) mX11_answer 11 [.ref 0, .int x1, .int x2] [.int y0] (q_K o g) = (if y0 = 0 then (q_sem d mX11_finding 0 [.ref 0, .int 1] [] (q_K o g)).bind (fun r => q_sem (d + 1) mX11_answer 19 [.ref 0, .int x1, .int x2] (r.1.toList ++ []) r.2) else (q_sem d mX10_isA 0 [.ref 1, .int x1, .int 3, .retAddr 0, .retAddr 0] [] (q_K o g)).bind (fun r => q_sem (d + 1) mX11_answer 29 [.ref 0, .int x1, .int x2] (r.1.toList ++ []) r.2)) := by
  refine (q_blk (Y := mX11_answer) (q_dcC dX11_answer_11 q_dcN) (show _ = some ((if q_cc .ne y0 0 = true then 20 else 14), [.ref 0, .int x1, .int x2], []) from rfl)).trans ?_
  by_cases c1 : y0 = 0
  · rw [if_neg (show ¬ q_cc .ne y0 0 = true from fun z => (of_decide_eq_true z : ¬ y0 = 0) c1)]
    refine Eq.trans ?_ (if_pos c1).symm
    refine (q_blk (Y := mX11_answer) (q_dcC dX11_answer_14 (q_dcC dX11_answer_15 q_dcN)) (show _ = some (16, [.ref 0, .int x1, .int x2], [.int 1, .ref 0]) from rfl)).trans ?_
    exact K_calV (d := d) (Y := mX11_answer) (Z := mX11_finding) (vs := [.int 1]) (rest := []) (la := [.ref 0, .int 1]) dX11_answer_16 rfl rfl rfl rfl ⟨by decide, rfl⟩ (Nat.le_of_ble_eq_true rfl) rfl (Nat.le_of_ble_eq_true rfl)
  · rw [if_pos (show q_cc .ne y0 0 = true from decide_eq_true c1)]
    refine Eq.trans ?_ (if_neg c1).symm
    refine (q_blk (Y := mX11_answer) (q_dcC dX11_answer_20 q_dcN) (show _ = some (21, [.ref 0, .int x1, .int x2], [.ref 0]) from rfl)).trans ?_
    refine (k_getr (Y := mX11_answer) dX11_answer_21 rfl rfl ⟨by decide, rfl⟩ (by decide) rfl).trans ?_
    refine (q_blk (Y := mX11_answer) (q_dcC dX11_answer_24 (q_dcC dX11_answer_25 q_dcN)) (show _ = some (26, [.ref 0, .int x1, .int x2], [.int 3, .int x1, .ref 1]) from rfl)).trans ?_
    exact K_calV (d := d) (Y := mX11_answer) (Z := mX10_isA) (vs := [.int x1, .int 3]) (rest := []) (la := [.ref 1, .int x1, .int 3, .retAddr 0, .retAddr 0]) dX11_answer_26 rfl rfl rfl rfl ⟨by decide, rfl⟩ (Nat.le_of_ble_eq_true rfl) rfl (Nat.le_of_ble_eq_true rfl)
theorem B_X11_answer_19 {o : q_H} (d : Nat) (x1 x2 y0 : Int32) (g : Nat → Nat → Int32) : q_sem (d) mX11_answer 19 [.ref 0, .int x1, .int x2] [.int y0] (q_K o g) = some (some (.int y0), q_K o g) := by
  exact k_iret (Y := mX11_answer) dX11_answer_19 rfl
theorem B_X11_answer_29 {o : q_H} (d : Nat) (x1 x2 y0 : Int32) (g : Nat → Nat → Int32) : q_sem (d + 1) mX11_answer 29 [.ref 0, .int x1, .int x2] [.int y0] (q_K o g) = (if y0 = 0 then (q_sem d mX11_finding 0 [.ref 0, .int 5] [] (q_K o g)).bind (fun r => q_sem (d + 1) mX11_answer 54 [.ref 0, .int x1, .int x2] (r.1.toList ++ []) r.2) else (q_sem d mX11_changed 0 [.ref 12, .int x1, .int 10, .int x2, .retAddr 0, .retAddr 0] [] (q_K o g)).bind (fun r => q_sem (d + 1) mX11_answer 46 [.ref 0, .int x1, .int x2] (r.1.toList ++ []) r.2)) := by
  refine (q_blk (Y := mX11_answer) (q_dcC dX11_answer_29 q_dcN) (show _ = some ((if q_cc .eq y0 0 = true then 49 else 32), [.ref 0, .int x1, .int x2], []) from rfl)).trans ?_
  by_cases c1 : y0 = 0
  · rw [if_pos (show q_cc .eq y0 0 = true from decide_eq_true c1)]
    refine Eq.trans ?_ (if_pos c1).symm
    refine (q_blk (Y := mX11_answer) (q_dcC dX11_answer_49 (q_dcC dX11_answer_50 q_dcN)) (show _ = some (51, [.ref 0, .int x1, .int x2], [.int 5, .ref 0]) from rfl)).trans ?_
    exact K_calV (d := d) (Y := mX11_answer) (Z := mX11_finding) (vs := [.int 5]) (rest := []) (la := [.ref 0, .int 5]) dX11_answer_51 rfl rfl rfl rfl ⟨by decide, rfl⟩ (Nat.le_of_ble_eq_true rfl) rfl (Nat.le_of_ble_eq_true rfl)
  · rw [if_neg (show ¬ q_cc .eq y0 0 = true from fun z => c1 (of_decide_eq_true z))]
    refine Eq.trans ?_ (if_neg c1).symm
    refine (q_blk (Y := mX11_answer) (q_dcC dX11_answer_32 q_dcN) (show _ = some (33, [.ref 0, .int x1, .int x2], [.ref 0]) from rfl)).trans ?_
    refine (k_getr (Y := mX11_answer) dX11_answer_33 rfl rfl ⟨by decide, rfl⟩ (by decide) rfl).trans ?_
    refine (k_getr (Y := mX11_answer) dX11_answer_36 rfl rfl ⟨by decide, rfl⟩ (by decide) rfl).trans ?_
    refine (q_blk (Y := mX11_answer) (q_dcC dX11_answer_39 (q_dcC dX11_answer_40 (q_dcC dX11_answer_42 q_dcN))) (show _ = some (43, [.ref 0, .int x1, .int x2], [.int x2, .int 10, .int x1, .ref 12]) from rfl)).trans ?_
    exact K_calS (d := d) (Y := mX11_answer) (Z := mX11_changed) (vs := [.ref 12, .int x1, .int 10, .int x2]) (rest := []) (la := [.ref 12, .int x1, .int 10, .int x2, .retAddr 0, .retAddr 0]) dX11_answer_43 rfl rfl rfl rfl (Nat.le_of_ble_eq_true rfl) rfl (Nat.le_of_ble_eq_true rfl)
theorem B_X11_answer_54 {o : q_H} (d : Nat) (x1 x2 y0 : Int32) (g : Nat → Nat → Int32) : q_sem (d) mX11_answer 54 [.ref 0, .int x1, .int x2] [.int y0] (q_K o g) = some (some (.int y0), q_K o g) := by
  exact k_iret (Y := mX11_answer) dX11_answer_54 rfl
theorem B_X11_answer_46 {o : q_H} (d : Nat) (x1 x2 y0 : Int32) (g : Nat → Nat → Int32) : q_sem (d) mX11_answer 46 [.ref 0, .int x1, .int x2] [.int y0] (q_K o g) = some (some (.int y0), q_K o g) := by
  refine (q_blk (Y := mX11_answer) (q_dcC dX11_answer_46 q_dcN) (show _ = some (54, [.ref 0, .int x1, .int x2], [.int y0]) from rfl)).trans ?_
  exact k_iret (Y := mX11_answer) dX11_answer_54 rfl
theorem B_X11_send_0 {o : q_H} (d : Nat) (x1 x2 : Int32) (g : Nat → Nat → Int32) : q_sem (d + 1) mX11_send 0 [.ref 0, .int x1, .int x2, .retAddr 0] [] (q_K o g) = (q_sem d mX11_notSendable 0 [.ref 0, .int x1, .int x2] [] (q_K o g)).bind (fun r => q_sem (d + 1) mX11_send 6 [.ref 0, .int x1, .int x2, .retAddr 0] (r.1.toList ++ []) r.2) := by
  refine (q_blk (Y := mX11_send) (q_dcC dX11_send_0 (q_dcC dX11_send_1 (q_dcC dX11_send_2 q_dcN))) (show _ = some (3, [.ref 0, .int x1, .int x2, .retAddr 0], [.int x2, .int x1, .ref 0]) from rfl)).trans ?_
  exact K_calV (d := d) (Y := mX11_send) (Z := mX11_notSendable) (vs := [.int x1, .int x2]) (rest := []) (la := [.ref 0, .int x1, .int x2]) dX11_send_3 rfl rfl rfl rfl ⟨by decide, rfl⟩ (Nat.le_of_ble_eq_true rfl) rfl (Nat.le_of_ble_eq_true rfl)
theorem B_X11_send_6 {o : q_H} (d : Nat) (x1 x2 y0 : Int32) (g : Nat → Nat → Int32) : q_sem (d + 1) mX11_send 6 [.ref 0, .int x1, .int x2, .retAddr 0] [.int y0] (q_K o g) = (if y0 = 0 then (q_sem d mX10_isArmed 0 [.ref 1, .int x1] [] (q_K o g)).bind (fun r => q_sem (d + 1) mX11_send 25 [.ref 0, .int x1, .int x2, .int y0] (r.1.toList ++ []) r.2) else (q_sem d mX11_finding 0 [.ref 0, .int y0] [] (q_K o g)).bind (fun r => q_sem (d + 1) mX11_send 16 [.ref 0, .int x1, .int x2, .int y0] (r.1.toList ++ []) r.2)) := by
  refine (q_blk (Y := mX11_send) (q_dcC dX11_send_6 (q_dcC dX11_send_7 (q_dcC dX11_send_8 q_dcN))) (show _ = some ((if q_cc .eq y0 0 = true then 17 else 11), [.ref 0, .int x1, .int x2, .int y0], []) from rfl)).trans ?_
  by_cases c1 : y0 = 0
  · rw [if_pos (show q_cc .eq y0 0 = true from decide_eq_true c1)]
    refine Eq.trans ?_ (if_pos c1).symm
    refine (q_blk (Y := mX11_send) (q_dcC dX11_send_17 q_dcN) (show _ = some (18, [.ref 0, .int x1, .int x2, .int y0], [.ref 0]) from rfl)).trans ?_
    refine (k_getr (Y := mX11_send) dX11_send_18 rfl rfl ⟨by decide, rfl⟩ (by decide) rfl).trans ?_
    refine (q_blk (Y := mX11_send) (q_dcC dX11_send_21 q_dcN) (show _ = some (22, [.ref 0, .int x1, .int x2, .int y0], [.int x1, .ref 1]) from rfl)).trans ?_
    exact K_calV (d := d) (Y := mX11_send) (Z := mX10_isArmed) (vs := [.int x1]) (rest := []) (la := [.ref 1, .int x1]) dX11_send_22 rfl rfl rfl rfl ⟨by decide, rfl⟩ (Nat.le_of_ble_eq_true rfl) rfl (Nat.le_of_ble_eq_true rfl)
  · rw [if_neg (show ¬ q_cc .eq y0 0 = true from fun z => c1 (of_decide_eq_true z))]
    refine Eq.trans ?_ (if_neg c1).symm
    refine (q_blk (Y := mX11_send) (q_dcC dX11_send_11 (q_dcC dX11_send_12 q_dcN)) (show _ = some (13, [.ref 0, .int x1, .int x2, .int y0], [.int y0, .ref 0]) from rfl)).trans ?_
    exact K_calV (d := d) (Y := mX11_send) (Z := mX11_finding) (vs := [.int y0]) (rest := []) (la := [.ref 0, .int y0]) dX11_send_13 rfl rfl rfl rfl ⟨by decide, rfl⟩ (Nat.le_of_ble_eq_true rfl) rfl (Nat.le_of_ble_eq_true rfl)
theorem B_X11_send_25 {o : q_H} (d : Nat) (x1 x2 x3 y0 : Int32) (g : Nat → Nat → Int32) : q_sem (d + 1) mX11_send 25 [.ref 0, .int x1, .int x2, .int x3] [.int y0] (q_K o g) = (if y0 = 0 then (q_sem d mX11_finding 0 [.ref 0, .int 2] [] (q_K o g)).bind (fun r => q_sem (d + 1) mX11_send 33 [.ref 0, .int x1, .int x2, .int x3] (r.1.toList ++ []) r.2) else (q_sem d mX7_write 0 [.ref 12, .int x1, .int 6, .int 0] [] (q_K o g)).bind (fun r => q_sem (d + 1) mX11_send 48 [.ref 0, .int x1, .int x2, .int x3] (r.1.toList ++ []) r.2)) := by
  refine (q_blk (Y := mX11_send) (q_dcC dX11_send_25 q_dcN) (show _ = some ((if q_cc .ne y0 0 = true then 34 else 28), [.ref 0, .int x1, .int x2, .int x3], []) from rfl)).trans ?_
  by_cases c1 : y0 = 0
  · rw [if_neg (show ¬ q_cc .ne y0 0 = true from fun z => (of_decide_eq_true z : ¬ y0 = 0) c1)]
    refine Eq.trans ?_ (if_pos c1).symm
    refine (q_blk (Y := mX11_send) (q_dcC dX11_send_28 (q_dcC dX11_send_29 q_dcN)) (show _ = some (30, [.ref 0, .int x1, .int x2, .int x3], [.int 2, .ref 0]) from rfl)).trans ?_
    exact K_calV (d := d) (Y := mX11_send) (Z := mX11_finding) (vs := [.int 2]) (rest := []) (la := [.ref 0, .int 2]) dX11_send_30 rfl rfl rfl rfl ⟨by decide, rfl⟩ (Nat.le_of_ble_eq_true rfl) rfl (Nat.le_of_ble_eq_true rfl)
  · rw [if_pos (show q_cc .ne y0 0 = true from decide_eq_true c1)]
    refine Eq.trans ?_ (if_neg c1).symm
    refine (q_blk (Y := mX11_send) (q_dcC dX11_send_34 q_dcN) (show _ = some (35, [.ref 0, .int x1, .int x2, .int x3], [.ref 0]) from rfl)).trans ?_
    refine (k_getr (Y := mX11_send) dX11_send_35 rfl rfl ⟨by decide, rfl⟩ (by decide) rfl).trans ?_
    refine (k_getr (Y := mX11_send) dX11_send_38 rfl rfl ⟨by decide, rfl⟩ (by decide) rfl).trans ?_
    refine (q_blk (Y := mX11_send) (q_dcC dX11_send_41 (q_dcC dX11_send_42 (q_dcC dX11_send_44 q_dcN))) (show _ = some (45, [.ref 0, .int x1, .int x2, .int x3], [.int 0, .int 6, .int x1, .ref 12]) from rfl)).trans ?_
    exact K_calV (d := d) (Y := mX11_send) (Z := mX7_write) (vs := [.int x1, .int 6, .int 0]) (rest := []) (la := [.ref 12, .int x1, .int 6, .int 0]) dX11_send_45 rfl rfl rfl rfl ⟨by decide, rfl⟩ (Nat.le_of_ble_eq_true rfl) rfl (Nat.le_of_ble_eq_true rfl)
theorem B_X11_send_16 {o : q_H} (d : Nat) (x1 x2 x3 y0 : Int32) (g : Nat → Nat → Int32) : q_sem (d) mX11_send 16 [.ref 0, .int x1, .int x2, .int x3] [.int y0] (q_K o g) = some (some (.int y0), q_K o g) := by
  exact k_iret (Y := mX11_send) dX11_send_16 rfl
theorem B_X11_send_33 {o : q_H} (d : Nat) (x1 x2 x3 y0 : Int32) (g : Nat → Nat → Int32) : q_sem (d) mX11_send 33 [.ref 0, .int x1, .int x2, .int x3] [.int y0] (q_K o g) = some (some (.int y0), q_K o g) := by
  exact k_iret (Y := mX11_send) dX11_send_33 rfl
theorem B_X11_send_48 {o : q_H} (d : Nat) (x1 x2 x3 : Int32) (g : Nat → Nat → Int32) : q_sem (d + 1) mX11_send 48 [.ref 0, .int x1, .int x2, .int x3] [] (q_K o g) = (q_sem d mX7_write 0 [.ref 12, .int x1, .int 9, .int x2] [] (q_K o g)).bind (fun r => q_sem (d + 1) mX11_send 62 [.ref 0, .int x1, .int x2, .int x3] (r.1.toList ++ []) r.2) := by
  refine (q_blk (Y := mX11_send) (q_dcC dX11_send_48 q_dcN) (show _ = some (49, [.ref 0, .int x1, .int x2, .int x3], [.ref 0]) from rfl)).trans ?_
  refine (k_getr (Y := mX11_send) dX11_send_49 rfl rfl ⟨by decide, rfl⟩ (by decide) rfl).trans ?_
  refine (k_getr (Y := mX11_send) dX11_send_52 rfl rfl ⟨by decide, rfl⟩ (by decide) rfl).trans ?_
  refine (q_blk (Y := mX11_send) (q_dcC dX11_send_55 (q_dcC dX11_send_56 (q_dcC dX11_send_58 q_dcN))) (show _ = some (59, [.ref 0, .int x1, .int x2, .int x3], [.int x2, .int 9, .int x1, .ref 12]) from rfl)).trans ?_
  exact K_calV (d := d) (Y := mX11_send) (Z := mX7_write) (vs := [.int x1, .int 9, .int x2]) (rest := []) (la := [.ref 12, .int x1, .int 9, .int x2]) dX11_send_59 rfl rfl rfl rfl ⟨by decide, rfl⟩ (Nat.le_of_ble_eq_true rfl) rfl (Nat.le_of_ble_eq_true rfl)
theorem B_X11_send_62 {o : q_H} (d : Nat) (x1 x2 x3 : Int32) (g : Nat → Nat → Int32) : q_sem (d) mX11_send 62 [.ref 0, .int x1, .int x2, .int x3] [] (q_K o g) = some (some (.int 1), q_K o g) := by
  refine (q_blk (Y := mX11_send) (q_dcC dX11_send_62 q_dcN) (show _ = some (63, [.ref 0, .int x1, .int x2, .int x3], [.int 1]) from rfl)).trans ?_
  exact k_iret (Y := mX11_send) dX11_send_63 rfl
theorem B_X11_notSendable_0 {o : q_H} (d : Nat) (x1 x2 : Int32) (g : Nat → Nat → Int32) : q_sem (d + 1) mX11_notSendable 0 [.ref 0, .int x1, .int x2] [] (q_K o g) = (q_sem d mX7_has 0 [.ref 12, .int x1] [] (q_K o g)).bind (fun r => q_sem (d + 1) mX11_notSendable 11 [.ref 0, .int x1, .int x2] (r.1.toList ++ []) r.2) := by
  refine (q_blk (Y := mX11_notSendable) (q_dcC dX11_notSendable_0 q_dcN) (show _ = some (1, [.ref 0, .int x1, .int x2], [.ref 0]) from rfl)).trans ?_
  refine (k_getr (Y := mX11_notSendable) dX11_notSendable_1 rfl rfl ⟨by decide, rfl⟩ (by decide) rfl).trans ?_
  refine (k_getr (Y := mX11_notSendable) dX11_notSendable_4 rfl rfl ⟨by decide, rfl⟩ (by decide) rfl).trans ?_
  refine (q_blk (Y := mX11_notSendable) (q_dcC dX11_notSendable_7 q_dcN) (show _ = some (8, [.ref 0, .int x1, .int x2], [.int x1, .ref 12]) from rfl)).trans ?_
  exact K_calV (d := d) (Y := mX11_notSendable) (Z := mX7_has) (vs := [.int x1]) (rest := []) (la := [.ref 12, .int x1]) dX11_notSendable_8 rfl rfl rfl rfl ⟨by decide, rfl⟩ (Nat.le_of_ble_eq_true rfl) rfl (Nat.le_of_ble_eq_true rfl)
theorem B_X11_notSendable_11 {o : q_H} (d : Nat) (x1 x2 y0 : Int32) (g : Nat → Nat → Int32) : q_sem (d + 1) mX11_notSendable 11 [.ref 0, .int x1, .int x2] [.int y0] (q_K o g) = (if y0 = 0 then some (some (.int 1), q_K o g) else (q_sem d mX7_has 0 [.ref 12, .int x2] [] (q_K o g)).bind (fun r => q_sem (d + 1) mX11_notSendable 25 [.ref 0, .int x1, .int x2] (r.1.toList ++ []) r.2)) := by
  refine (q_blk (Y := mX11_notSendable) (q_dcC dX11_notSendable_11 q_dcN) (show _ = some ((if q_cc .eq y0 0 = true then 28 else 14), [.ref 0, .int x1, .int x2], []) from rfl)).trans ?_
  by_cases c1 : y0 = 0
  · rw [if_pos (show q_cc .eq y0 0 = true from decide_eq_true c1)]
    refine Eq.trans ?_ (if_pos c1).symm
    refine (q_blk (Y := mX11_notSendable) (q_dcC dX11_notSendable_28 q_dcN) (show _ = some (29, [.ref 0, .int x1, .int x2], [.int 1]) from rfl)).trans ?_
    exact k_iret (Y := mX11_notSendable) dX11_notSendable_29 rfl
  · rw [if_neg (show ¬ q_cc .eq y0 0 = true from fun z => c1 (of_decide_eq_true z))]
    refine Eq.trans ?_ (if_neg c1).symm
    refine (q_blk (Y := mX11_notSendable) (q_dcC dX11_notSendable_14 q_dcN) (show _ = some (15, [.ref 0, .int x1, .int x2], [.ref 0]) from rfl)).trans ?_
    refine (k_getr (Y := mX11_notSendable) dX11_notSendable_15 rfl rfl ⟨by decide, rfl⟩ (by decide) rfl).trans ?_
    refine (k_getr (Y := mX11_notSendable) dX11_notSendable_18 rfl rfl ⟨by decide, rfl⟩ (by decide) rfl).trans ?_
    refine (q_blk (Y := mX11_notSendable) (q_dcC dX11_notSendable_21 q_dcN) (show _ = some (22, [.ref 0, .int x1, .int x2], [.int x2, .ref 12]) from rfl)).trans ?_
    exact K_calV (d := d) (Y := mX11_notSendable) (Z := mX7_has) (vs := [.int x2]) (rest := []) (la := [.ref 12, .int x2]) dX11_notSendable_22 rfl rfl rfl rfl ⟨by decide, rfl⟩ (Nat.le_of_ble_eq_true rfl) rfl (Nat.le_of_ble_eq_true rfl)
theorem B_X11_notSendable_25 {o : q_H} (d : Nat) (x1 x2 y0 : Int32) (g : Nat → Nat → Int32) : q_sem (d + 1) mX11_notSendable 25 [.ref 0, .int x1, .int x2] [.int y0] (q_K o g) = (if y0 = 0 then some (some (.int 1), q_K o g) else (q_sem d mX10_isA 0 [.ref 1, .int x1, .int 4, .retAddr 0, .retAddr 0] [] (q_K o g)).bind (fun r => q_sem (d + 1) mX11_notSendable 39 [.ref 0, .int x1, .int x2] (r.1.toList ++ []) r.2)) := by
  refine (q_blk (Y := mX11_notSendable) (q_dcC dX11_notSendable_25 q_dcN) (show _ = some ((if q_cc .ne y0 0 = true then 30 else 28), [.ref 0, .int x1, .int x2], []) from rfl)).trans ?_
  by_cases c1 : y0 = 0
  · rw [if_neg (show ¬ q_cc .ne y0 0 = true from fun z => (of_decide_eq_true z : ¬ y0 = 0) c1)]
    refine Eq.trans ?_ (if_pos c1).symm
    refine (q_blk (Y := mX11_notSendable) (q_dcC dX11_notSendable_28 q_dcN) (show _ = some (29, [.ref 0, .int x1, .int x2], [.int 1]) from rfl)).trans ?_
    exact k_iret (Y := mX11_notSendable) dX11_notSendable_29 rfl
  · rw [if_pos (show q_cc .ne y0 0 = true from decide_eq_true c1)]
    refine Eq.trans ?_ (if_neg c1).symm
    refine (q_blk (Y := mX11_notSendable) (q_dcC dX11_notSendable_30 q_dcN) (show _ = some (31, [.ref 0, .int x1, .int x2], [.ref 0]) from rfl)).trans ?_
    refine (k_getr (Y := mX11_notSendable) dX11_notSendable_31 rfl rfl ⟨by decide, rfl⟩ (by decide) rfl).trans ?_
    refine (q_blk (Y := mX11_notSendable) (q_dcC dX11_notSendable_34 (q_dcC dX11_notSendable_35 q_dcN)) (show _ = some (36, [.ref 0, .int x1, .int x2], [.int 4, .int x1, .ref 1]) from rfl)).trans ?_
    exact K_calV (d := d) (Y := mX11_notSendable) (Z := mX10_isA) (vs := [.int x1, .int 4]) (rest := []) (la := [.ref 1, .int x1, .int 4, .retAddr 0, .retAddr 0]) dX11_notSendable_36 rfl rfl rfl rfl ⟨by decide, rfl⟩ (Nat.le_of_ble_eq_true rfl) rfl (Nat.le_of_ble_eq_true rfl)
theorem B_X11_notSendable_39 {o : q_H} (d : Nat) (x1 x2 y0 : Int32) (g : Nat → Nat → Int32) : q_sem (d + 1) mX11_notSendable 39 [.ref 0, .int x1, .int x2] [.int y0] (q_K o g) = (if y0 = 0 then some (some (.int 5), q_K o g) else (q_sem d mX10_isA 0 [.ref 1, .int x2, .int 4, .retAddr 0, .retAddr 0] [] (q_K o g)).bind (fun r => q_sem (d + 1) mX11_notSendable 51 [.ref 0, .int x1, .int x2] (r.1.toList ++ []) r.2)) := by
  refine (q_blk (Y := mX11_notSendable) (q_dcC dX11_notSendable_39 q_dcN) (show _ = some ((if q_cc .eq y0 0 = true then 54 else 42), [.ref 0, .int x1, .int x2], []) from rfl)).trans ?_
  by_cases c1 : y0 = 0
  · rw [if_pos (show q_cc .eq y0 0 = true from decide_eq_true c1)]
    refine Eq.trans ?_ (if_pos c1).symm
    refine (q_blk (Y := mX11_notSendable) (q_dcC dX11_notSendable_54 q_dcN) (show _ = some (55, [.ref 0, .int x1, .int x2], [.int 5]) from rfl)).trans ?_
    exact k_iret (Y := mX11_notSendable) dX11_notSendable_55 rfl
  · rw [if_neg (show ¬ q_cc .eq y0 0 = true from fun z => c1 (of_decide_eq_true z))]
    refine Eq.trans ?_ (if_neg c1).symm
    refine (q_blk (Y := mX11_notSendable) (q_dcC dX11_notSendable_42 q_dcN) (show _ = some (43, [.ref 0, .int x1, .int x2], [.ref 0]) from rfl)).trans ?_
    refine (k_getr (Y := mX11_notSendable) dX11_notSendable_43 rfl rfl ⟨by decide, rfl⟩ (by decide) rfl).trans ?_
    refine (q_blk (Y := mX11_notSendable) (q_dcC dX11_notSendable_46 (q_dcC dX11_notSendable_47 q_dcN)) (show _ = some (48, [.ref 0, .int x1, .int x2], [.int 4, .int x2, .ref 1]) from rfl)).trans ?_
    exact K_calV (d := d) (Y := mX11_notSendable) (Z := mX10_isA) (vs := [.int x2, .int 4]) (rest := []) (la := [.ref 1, .int x2, .int 4, .retAddr 0, .retAddr 0]) dX11_notSendable_48 rfl rfl rfl rfl ⟨by decide, rfl⟩ (Nat.le_of_ble_eq_true rfl) rfl (Nat.le_of_ble_eq_true rfl)
theorem B_X11_notSendable_51 {o : q_H} (d : Nat) (x1 x2 y0 : Int32) (g : Nat → Nat → Int32) : q_sem (d + 1) mX11_notSendable 51 [.ref 0, .int x1, .int x2] [.int y0] (q_K o g) = (if y0 = 0 then (q_sem d mX10_stands 0 [.ref 1, .int x1, .int 2] [] (q_K o g)).bind (fun r => q_sem (d + 1) mX11_notSendable 65 [.ref 0, .int x1, .int x2] (r.1.toList ++ []) r.2) else some (some (.int 5), q_K o g)) := by
  refine (q_blk (Y := mX11_notSendable) (q_dcC dX11_notSendable_51 q_dcN) (show _ = some ((if q_cc .eq y0 0 = true then 56 else 54), [.ref 0, .int x1, .int x2], []) from rfl)).trans ?_
  by_cases c1 : y0 = 0
  · rw [if_pos (show q_cc .eq y0 0 = true from decide_eq_true c1)]
    refine Eq.trans ?_ (if_pos c1).symm
    refine (q_blk (Y := mX11_notSendable) (q_dcC dX11_notSendable_56 q_dcN) (show _ = some (57, [.ref 0, .int x1, .int x2], [.ref 0]) from rfl)).trans ?_
    refine (k_getr (Y := mX11_notSendable) dX11_notSendable_57 rfl rfl ⟨by decide, rfl⟩ (by decide) rfl).trans ?_
    refine (q_blk (Y := mX11_notSendable) (q_dcC dX11_notSendable_60 (q_dcC dX11_notSendable_61 q_dcN)) (show _ = some (62, [.ref 0, .int x1, .int x2], [.int 2, .int x1, .ref 1]) from rfl)).trans ?_
    exact K_calV (d := d) (Y := mX11_notSendable) (Z := mX10_stands) (vs := [.int x1, .int 2]) (rest := []) (la := [.ref 1, .int x1, .int 2]) dX11_notSendable_62 rfl rfl rfl rfl ⟨by decide, rfl⟩ (Nat.le_of_ble_eq_true rfl) rfl (Nat.le_of_ble_eq_true rfl)
  · rw [if_neg (show ¬ q_cc .eq y0 0 = true from fun z => c1 (of_decide_eq_true z))]
    refine Eq.trans ?_ (if_neg c1).symm
    refine (q_blk (Y := mX11_notSendable) (q_dcC dX11_notSendable_54 q_dcN) (show _ = some (55, [.ref 0, .int x1, .int x2], [.int 5]) from rfl)).trans ?_
    exact k_iret (Y := mX11_notSendable) dX11_notSendable_55 rfl
theorem B_X11_notSendable_65 {o : q_H} (d : Nat) (x1 x2 y0 : Int32) (g : Nat → Nat → Int32) : q_sem (d + 1) mX11_notSendable 65 [.ref 0, .int x1, .int x2] [.int y0] (q_K o g) = (if y0 = 0 then (q_sem d mX10_stands 0 [.ref 1, .int x2, .int 0] [] (q_K o g)).bind (fun r => q_sem (d + 1) mX11_notSendable 77 [.ref 0, .int x1, .int x2] (r.1.toList ++ []) r.2) else some (some (.int 3), q_K o g)) := by
  refine (q_blk (Y := mX11_notSendable) (q_dcC dX11_notSendable_65 q_dcN) (show _ = some ((if q_cc .ne y0 0 = true then 80 else 68), [.ref 0, .int x1, .int x2], []) from rfl)).trans ?_
  by_cases c1 : y0 = 0
  · rw [if_neg (show ¬ q_cc .ne y0 0 = true from fun z => (of_decide_eq_true z : ¬ y0 = 0) c1)]
    refine Eq.trans ?_ (if_pos c1).symm
    refine (q_blk (Y := mX11_notSendable) (q_dcC dX11_notSendable_68 q_dcN) (show _ = some (69, [.ref 0, .int x1, .int x2], [.ref 0]) from rfl)).trans ?_
    refine (k_getr (Y := mX11_notSendable) dX11_notSendable_69 rfl rfl ⟨by decide, rfl⟩ (by decide) rfl).trans ?_
    refine (q_blk (Y := mX11_notSendable) (q_dcC dX11_notSendable_72 (q_dcC dX11_notSendable_73 q_dcN)) (show _ = some (74, [.ref 0, .int x1, .int x2], [.int 0, .int x2, .ref 1]) from rfl)).trans ?_
    exact K_calV (d := d) (Y := mX11_notSendable) (Z := mX10_stands) (vs := [.int x2, .int 0]) (rest := []) (la := [.ref 1, .int x2, .int 0]) dX11_notSendable_74 rfl rfl rfl rfl ⟨by decide, rfl⟩ (Nat.le_of_ble_eq_true rfl) rfl (Nat.le_of_ble_eq_true rfl)
  · rw [if_pos (show q_cc .ne y0 0 = true from decide_eq_true c1)]
    refine Eq.trans ?_ (if_neg c1).symm
    refine (q_blk (Y := mX11_notSendable) (q_dcC dX11_notSendable_80 (q_dcC dX11_notSendable_81 q_dcN)) (show _ = some (85, [.ref 0, .int x1, .int x2], [.int 3]) from rfl)).trans ?_
    exact k_iret (Y := mX11_notSendable) dX11_notSendable_85 rfl
theorem B_X11_notSendable_77 {o : q_H} (d : Nat) (x1 x2 y0 : Int32) (g : Nat → Nat → Int32) : q_sem (d) mX11_notSendable 77 [.ref 0, .int x1, .int x2] [.int y0] (q_K o g) = (if y0 = 0 then some (some (.int 3), q_K o g) else some (some (.int 0), q_K o g)) := by
  refine (q_blk (Y := mX11_notSendable) (q_dcC dX11_notSendable_77 q_dcN) (show _ = some ((if q_cc .ne y0 0 = true then 84 else 80), [.ref 0, .int x1, .int x2], []) from rfl)).trans ?_
  by_cases c1 : y0 = 0
  · rw [if_neg (show ¬ q_cc .ne y0 0 = true from fun z => (of_decide_eq_true z : ¬ y0 = 0) c1)]
    refine Eq.trans ?_ (if_pos c1).symm
    refine (q_blk (Y := mX11_notSendable) (q_dcC dX11_notSendable_80 (q_dcC dX11_notSendable_81 q_dcN)) (show _ = some (85, [.ref 0, .int x1, .int x2], [.int 3]) from rfl)).trans ?_
    exact k_iret (Y := mX11_notSendable) dX11_notSendable_85 rfl
  · rw [if_pos (show q_cc .ne y0 0 = true from decide_eq_true c1)]
    refine Eq.trans ?_ (if_neg c1).symm
    refine (q_blk (Y := mX11_notSendable) (q_dcC dX11_notSendable_84 q_dcN) (show _ = some (85, [.ref 0, .int x1, .int x2], [.int 0]) from rfl)).trans ?_
    exact k_iret (Y := mX11_notSendable) dX11_notSendable_85 rfl
theorem B_X11_back_0 {o : q_H} (d : Nat) (x1 : Int32) (g : Nat → Nat → Int32) : q_sem (d + 1) mX11_back 0 [.ref 0, .int x1, .retAddr 0] [] (q_K o g) = (q_sem d mX7_has 0 [.ref 12, .int x1] [] (q_K o g)).bind (fun r => q_sem (d + 1) mX11_back 11 [.ref 0, .int x1, .retAddr 0] (r.1.toList ++ []) r.2) := by
  refine (q_blk (Y := mX11_back) (q_dcC dX11_back_0 q_dcN) (show _ = some (1, [.ref 0, .int x1, .retAddr 0], [.ref 0]) from rfl)).trans ?_
  refine (k_getr (Y := mX11_back) dX11_back_1 rfl rfl ⟨by decide, rfl⟩ (by decide) rfl).trans ?_
  refine (k_getr (Y := mX11_back) dX11_back_4 rfl rfl ⟨by decide, rfl⟩ (by decide) rfl).trans ?_
  refine (q_blk (Y := mX11_back) (q_dcC dX11_back_7 q_dcN) (show _ = some (8, [.ref 0, .int x1, .retAddr 0], [.int x1, .ref 12]) from rfl)).trans ?_
  exact K_calV (d := d) (Y := mX11_back) (Z := mX7_has) (vs := [.int x1]) (rest := []) (la := [.ref 12, .int x1]) dX11_back_8 rfl rfl rfl rfl ⟨by decide, rfl⟩ (Nat.le_of_ble_eq_true rfl) rfl (Nat.le_of_ble_eq_true rfl)
theorem B_X11_back_11 {o : q_H} (d : Nat) (x1 y0 : Int32) (g : Nat → Nat → Int32) : q_sem (d + 1) mX11_back 11 [.ref 0, .int x1, .retAddr 0] [.int y0] (q_K o g) = (if y0 = 0 then (q_sem d mX11_finding 0 [.ref 0, .int 1] [] (q_K o g)).bind (fun r => q_sem (d + 1) mX11_back 19 [.ref 0, .int x1, .retAddr 0] (r.1.toList ++ []) r.2) else (q_sem d mX10_isA 0 [.ref 1, .int x1, .int 4, .retAddr 0, .retAddr 0] [] (q_K o g)).bind (fun r => q_sem (d + 1) mX11_back 29 [.ref 0, .int x1, .retAddr 0] (r.1.toList ++ []) r.2)) := by
  refine (q_blk (Y := mX11_back) (q_dcC dX11_back_11 q_dcN) (show _ = some ((if q_cc .ne y0 0 = true then 20 else 14), [.ref 0, .int x1, .retAddr 0], []) from rfl)).trans ?_
  by_cases c1 : y0 = 0
  · rw [if_neg (show ¬ q_cc .ne y0 0 = true from fun z => (of_decide_eq_true z : ¬ y0 = 0) c1)]
    refine Eq.trans ?_ (if_pos c1).symm
    refine (q_blk (Y := mX11_back) (q_dcC dX11_back_14 (q_dcC dX11_back_15 q_dcN)) (show _ = some (16, [.ref 0, .int x1, .retAddr 0], [.int 1, .ref 0]) from rfl)).trans ?_
    exact K_calV (d := d) (Y := mX11_back) (Z := mX11_finding) (vs := [.int 1]) (rest := []) (la := [.ref 0, .int 1]) dX11_back_16 rfl rfl rfl rfl ⟨by decide, rfl⟩ (Nat.le_of_ble_eq_true rfl) rfl (Nat.le_of_ble_eq_true rfl)
  · rw [if_pos (show q_cc .ne y0 0 = true from decide_eq_true c1)]
    refine Eq.trans ?_ (if_neg c1).symm
    refine (q_blk (Y := mX11_back) (q_dcC dX11_back_20 q_dcN) (show _ = some (21, [.ref 0, .int x1, .retAddr 0], [.ref 0]) from rfl)).trans ?_
    refine (k_getr (Y := mX11_back) dX11_back_21 rfl rfl ⟨by decide, rfl⟩ (by decide) rfl).trans ?_
    refine (q_blk (Y := mX11_back) (q_dcC dX11_back_24 (q_dcC dX11_back_25 q_dcN)) (show _ = some (26, [.ref 0, .int x1, .retAddr 0], [.int 4, .int x1, .ref 1]) from rfl)).trans ?_
    exact K_calV (d := d) (Y := mX11_back) (Z := mX10_isA) (vs := [.int x1, .int 4]) (rest := []) (la := [.ref 1, .int x1, .int 4, .retAddr 0, .retAddr 0]) dX11_back_26 rfl rfl rfl rfl ⟨by decide, rfl⟩ (Nat.le_of_ble_eq_true rfl) rfl (Nat.le_of_ble_eq_true rfl)
theorem B_X11_back_19 {o : q_H} (d : Nat) (x1 y0 : Int32) (g : Nat → Nat → Int32) : q_sem (d) mX11_back 19 [.ref 0, .int x1, .retAddr 0] [.int y0] (q_K o g) = some (some (.int y0), q_K o g) := by
  exact k_iret (Y := mX11_back) dX11_back_19 rfl
theorem B_X11_back_29 {o : q_H} (d : Nat) (x1 y0 : Int32) (g : Nat → Nat → Int32) : q_sem (d + 1) mX11_back 29 [.ref 0, .int x1, .retAddr 0] [.int y0] (q_K o g) = (if y0 = 0 then (q_sem d mX11_finding 0 [.ref 0, .int 5] [] (q_K o g)).bind (fun r => q_sem (d + 1) mX11_back 37 [.ref 0, .int x1, .retAddr 0] (r.1.toList ++ []) r.2) else (q_sem d mX10_stands 0 [.ref 1, .int x1, .int 0] [] (q_K o g)).bind (fun r => q_sem (d + 1) mX11_back 47 [.ref 0, .int x1, .retAddr 0] (r.1.toList ++ []) r.2)) := by
  refine (q_blk (Y := mX11_back) (q_dcC dX11_back_29 q_dcN) (show _ = some ((if q_cc .ne y0 0 = true then 38 else 32), [.ref 0, .int x1, .retAddr 0], []) from rfl)).trans ?_
  by_cases c1 : y0 = 0
  · rw [if_neg (show ¬ q_cc .ne y0 0 = true from fun z => (of_decide_eq_true z : ¬ y0 = 0) c1)]
    refine Eq.trans ?_ (if_pos c1).symm
    refine (q_blk (Y := mX11_back) (q_dcC dX11_back_32 (q_dcC dX11_back_33 q_dcN)) (show _ = some (34, [.ref 0, .int x1, .retAddr 0], [.int 5, .ref 0]) from rfl)).trans ?_
    exact K_calV (d := d) (Y := mX11_back) (Z := mX11_finding) (vs := [.int 5]) (rest := []) (la := [.ref 0, .int 5]) dX11_back_34 rfl rfl rfl rfl ⟨by decide, rfl⟩ (Nat.le_of_ble_eq_true rfl) rfl (Nat.le_of_ble_eq_true rfl)
  · rw [if_pos (show q_cc .ne y0 0 = true from decide_eq_true c1)]
    refine Eq.trans ?_ (if_neg c1).symm
    refine (q_blk (Y := mX11_back) (q_dcC dX11_back_38 q_dcN) (show _ = some (39, [.ref 0, .int x1, .retAddr 0], [.ref 0]) from rfl)).trans ?_
    refine (k_getr (Y := mX11_back) dX11_back_39 rfl rfl ⟨by decide, rfl⟩ (by decide) rfl).trans ?_
    refine (q_blk (Y := mX11_back) (q_dcC dX11_back_42 (q_dcC dX11_back_43 q_dcN)) (show _ = some (44, [.ref 0, .int x1, .retAddr 0], [.int 0, .int x1, .ref 1]) from rfl)).trans ?_
    exact K_calV (d := d) (Y := mX11_back) (Z := mX10_stands) (vs := [.int x1, .int 0]) (rest := []) (la := [.ref 1, .int x1, .int 0]) dX11_back_44 rfl rfl rfl rfl ⟨by decide, rfl⟩ (Nat.le_of_ble_eq_true rfl) rfl (Nat.le_of_ble_eq_true rfl)
theorem B_X11_back_37 {o : q_H} (d : Nat) (x1 y0 : Int32) (g : Nat → Nat → Int32) : q_sem (d) mX11_back 37 [.ref 0, .int x1, .retAddr 0] [.int y0] (q_K o g) = some (some (.int y0), q_K o g) := by
  exact k_iret (Y := mX11_back) dX11_back_37 rfl
theorem B_X11_back_47 {o : q_H} (d : Nat) (x1 y0 : Int32) (g : Nat → Nat → Int32) : q_sem (d + 1) mX11_back 47 [.ref 0, .int x1, .retAddr 0] [.int y0] (q_K o g) = (if y0 = 0 then (q_sem d mX11_finding 0 [.ref 0, .int 3] [] (q_K o g)).bind (fun r => q_sem (d + 1) mX11_back 55 [.ref 0, .int x1, .retAddr 0] (r.1.toList ++ []) r.2) else (q_sem d mX7_get 0 [.ref 12, .int x1, .int 9] [] (q_K o g)).bind (fun r => q_sem (d + 1) mX11_back 69 [.ref 0, .int x1, .retAddr 0] (r.1.toList ++ []) r.2)) := by
  refine (q_blk (Y := mX11_back) (q_dcC dX11_back_47 q_dcN) (show _ = some ((if q_cc .ne y0 0 = true then 56 else 50), [.ref 0, .int x1, .retAddr 0], []) from rfl)).trans ?_
  by_cases c1 : y0 = 0
  · rw [if_neg (show ¬ q_cc .ne y0 0 = true from fun z => (of_decide_eq_true z : ¬ y0 = 0) c1)]
    refine Eq.trans ?_ (if_pos c1).symm
    refine (q_blk (Y := mX11_back) (q_dcC dX11_back_50 (q_dcC dX11_back_51 q_dcN)) (show _ = some (52, [.ref 0, .int x1, .retAddr 0], [.int 3, .ref 0]) from rfl)).trans ?_
    exact K_calV (d := d) (Y := mX11_back) (Z := mX11_finding) (vs := [.int 3]) (rest := []) (la := [.ref 0, .int 3]) dX11_back_52 rfl rfl rfl rfl ⟨by decide, rfl⟩ (Nat.le_of_ble_eq_true rfl) rfl (Nat.le_of_ble_eq_true rfl)
  · rw [if_pos (show q_cc .ne y0 0 = true from decide_eq_true c1)]
    refine Eq.trans ?_ (if_neg c1).symm
    refine (q_blk (Y := mX11_back) (q_dcC dX11_back_56 q_dcN) (show _ = some (57, [.ref 0, .int x1, .retAddr 0], [.ref 0]) from rfl)).trans ?_
    refine (k_getr (Y := mX11_back) dX11_back_57 rfl rfl ⟨by decide, rfl⟩ (by decide) rfl).trans ?_
    refine (k_getr (Y := mX11_back) dX11_back_60 rfl rfl ⟨by decide, rfl⟩ (by decide) rfl).trans ?_
    refine (q_blk (Y := mX11_back) (q_dcC dX11_back_63 (q_dcC dX11_back_64 q_dcN)) (show _ = some (66, [.ref 0, .int x1, .retAddr 0], [.int 9, .int x1, .ref 12]) from rfl)).trans ?_
    exact K_calV (d := d) (Y := mX11_back) (Z := mX7_get) (vs := [.int x1, .int 9]) (rest := []) (la := [.ref 12, .int x1, .int 9]) dX11_back_66 rfl rfl rfl rfl ⟨by decide, rfl⟩ (Nat.le_of_ble_eq_true rfl) rfl (Nat.le_of_ble_eq_true rfl)
theorem B_X11_back_55 {o : q_H} (d : Nat) (x1 y0 : Int32) (g : Nat → Nat → Int32) : q_sem (d) mX11_back 55 [.ref 0, .int x1, .retAddr 0] [.int y0] (q_K o g) = some (some (.int y0), q_K o g) := by
  exact k_iret (Y := mX11_back) dX11_back_55 rfl
theorem B_X11_back_69 {o : q_H} (d : Nat) (x1 y0 : Int32) (g : Nat → Nat → Int32) : q_sem (d + 1) mX11_back 69 [.ref 0, .int x1, .retAddr 0] [.int y0] (q_K o g) = (q_sem d mX7_write 0 [.ref 12, .int x1, .int 9, .int (-1)] [] (q_K o g)).bind (fun r => q_sem (d + 1) mX11_back 84 [.ref 0, .int x1, .int y0] (r.1.toList ++ []) r.2) := by
  refine (q_blk (Y := mX11_back) (q_dcC dX11_back_69 (q_dcC dX11_back_70 q_dcN)) (show _ = some (71, [.ref 0, .int x1, .int y0], [.ref 0]) from rfl)).trans ?_
  refine (k_getr (Y := mX11_back) dX11_back_71 rfl rfl ⟨by decide, rfl⟩ (by decide) rfl).trans ?_
  refine (k_getr (Y := mX11_back) dX11_back_74 rfl rfl ⟨by decide, rfl⟩ (by decide) rfl).trans ?_
  refine (q_blk (Y := mX11_back) (q_dcC dX11_back_77 (q_dcC dX11_back_78 (q_dcC dX11_back_80 q_dcN))) (show _ = some (81, [.ref 0, .int x1, .int y0], [.int (-1), .int 9, .int x1, .ref 12]) from rfl)).trans ?_
  exact K_calV (d := d) (Y := mX11_back) (Z := mX7_write) (vs := [.int x1, .int 9, .int (-1)]) (rest := []) (la := [.ref 12, .int x1, .int 9, .int (-1)]) dX11_back_81 rfl rfl rfl rfl ⟨by decide, rfl⟩ (Nat.le_of_ble_eq_true rfl) rfl (Nat.le_of_ble_eq_true rfl)
theorem B_X11_back_84 {o : q_H} (d : Nat) (x1 x2 : Int32) (g : Nat → Nat → Int32) : q_sem (d) mX11_back 84 [.ref 0, .int x1, .int x2] [] (q_K o g) = (if x2 < 0 then some (some (.int 0), q_K o g) else some (some (.int 1), q_K o g)) := by
  refine (q_blk (Y := mX11_back) (q_dcC dX11_back_84 (q_dcC dX11_back_85 q_dcN)) (show _ = some ((if q_cc .lt x2 0 = true then 92 else 88), [.ref 0, .int x1, .int x2], []) from rfl)).trans ?_
  by_cases c1 : x2 < 0
  · rw [if_pos (show q_cc .lt x2 0 = true from decide_eq_true c1)]
    refine Eq.trans ?_ (if_pos c1).symm
    refine (q_blk (Y := mX11_back) (q_dcC dX11_back_92 q_dcN) (show _ = some (93, [.ref 0, .int x1, .int x2], [.int 0]) from rfl)).trans ?_
    exact k_iret (Y := mX11_back) dX11_back_93 rfl
  · rw [if_neg (show ¬ q_cc .lt x2 0 = true from fun z => c1 (of_decide_eq_true z))]
    refine Eq.trans ?_ (if_neg c1).symm
    refine (q_blk (Y := mX11_back) (q_dcC dX11_back_88 (q_dcC dX11_back_89 q_dcN)) (show _ = some (93, [.ref 0, .int x1, .int x2], [.int 1]) from rfl)).trans ?_
    exact k_iret (Y := mX11_back) dX11_back_93 rfl
theorem B_X11_fill_0 {o : q_H} (d : Nat) (x1 x2 x3 : Int32) (g : Nat → Nat → Int32) : q_sem (d + 1) mX11_fill 0 [.ref 0, .int x1, .int x2, .int x3] [] (q_K o g) = (q_sem d mX7_has 0 [.ref 12, .int x1] [] (q_K o g)).bind (fun r => q_sem (d + 1) mX11_fill 11 [.ref 0, .int x1, .int x2, .int x3] (r.1.toList ++ []) r.2) := by
  refine (q_blk (Y := mX11_fill) (q_dcC dX11_fill_0 q_dcN) (show _ = some (1, [.ref 0, .int x1, .int x2, .int x3], [.ref 0]) from rfl)).trans ?_
  refine (k_getr (Y := mX11_fill) dX11_fill_1 rfl rfl ⟨by decide, rfl⟩ (by decide) rfl).trans ?_
  refine (k_getr (Y := mX11_fill) dX11_fill_4 rfl rfl ⟨by decide, rfl⟩ (by decide) rfl).trans ?_
  refine (q_blk (Y := mX11_fill) (q_dcC dX11_fill_7 q_dcN) (show _ = some (8, [.ref 0, .int x1, .int x2, .int x3], [.int x1, .ref 12]) from rfl)).trans ?_
  exact K_calV (d := d) (Y := mX11_fill) (Z := mX7_has) (vs := [.int x1]) (rest := []) (la := [.ref 12, .int x1]) dX11_fill_8 rfl rfl rfl rfl ⟨by decide, rfl⟩ (Nat.le_of_ble_eq_true rfl) rfl (Nat.le_of_ble_eq_true rfl)
theorem B_X11_fill_11 {o : q_H} (d : Nat) (x1 x2 x3 y0 : Int32) (g : Nat → Nat → Int32) : q_sem (d + 1) mX11_fill 11 [.ref 0, .int x1, .int x2, .int x3] [.int y0] (q_K o g) = (if y0 = 0 then (q_sem d mX11_finding 0 [.ref 0, .int 1] [] (q_K o g)).bind (fun r => q_sem (d + 1) mX11_fill 39 [.ref 0, .int x1, .int x2, .int x3] (r.1.toList ++ []) r.2) else (q_sem d mX11_within 0 [.int x2, .int 0, .int 99] [] (q_K o g)).bind (fun r => q_sem (d + 1) mX11_fill 21 [.ref 0, .int x1, .int x2, .int x3] (r.1.toList ++ []) r.2)) := by
  refine (q_blk (Y := mX11_fill) (q_dcC dX11_fill_11 q_dcN) (show _ = some ((if q_cc .eq y0 0 = true then 34 else 14), [.ref 0, .int x1, .int x2, .int x3], []) from rfl)).trans ?_
  by_cases c1 : y0 = 0
  · rw [if_pos (show q_cc .eq y0 0 = true from decide_eq_true c1)]
    refine Eq.trans ?_ (if_pos c1).symm
    refine (q_blk (Y := mX11_fill) (q_dcC dX11_fill_34 (q_dcC dX11_fill_35 q_dcN)) (show _ = some (36, [.ref 0, .int x1, .int x2, .int x3], [.int 1, .ref 0]) from rfl)).trans ?_
    exact K_calV (d := d) (Y := mX11_fill) (Z := mX11_finding) (vs := [.int 1]) (rest := []) (la := [.ref 0, .int 1]) dX11_fill_36 rfl rfl rfl rfl ⟨by decide, rfl⟩ (Nat.le_of_ble_eq_true rfl) rfl (Nat.le_of_ble_eq_true rfl)
  · rw [if_neg (show ¬ q_cc .eq y0 0 = true from fun z => c1 (of_decide_eq_true z))]
    refine Eq.trans ?_ (if_neg c1).symm
    refine (q_blk (Y := mX11_fill) (q_dcC dX11_fill_14 (q_dcC dX11_fill_15 (q_dcC dX11_fill_16 q_dcN))) (show _ = some (18, [.ref 0, .int x1, .int x2, .int x3], [.int 99, .int 0, .int x2]) from rfl)).trans ?_
    exact K_calS (d := d) (Y := mX11_fill) (Z := mX11_within) (vs := [.int x2, .int 0, .int 99]) (rest := []) (la := [.int x2, .int 0, .int 99]) dX11_fill_18 rfl rfl rfl rfl (Nat.le_of_ble_eq_true rfl) rfl (Nat.le_of_ble_eq_true rfl)
theorem B_X11_fill_39 {o : q_H} (d : Nat) (x1 x2 x3 y0 : Int32) (g : Nat → Nat → Int32) : q_sem (d) mX11_fill 39 [.ref 0, .int x1, .int x2, .int x3] [.int y0] (q_K o g) = some (some (.int y0), q_K o g) := by
  exact k_iret (Y := mX11_fill) dX11_fill_39 rfl
theorem B_X11_fill_21 {o : q_H} (d : Nat) (x1 x2 x3 y0 : Int32) (g : Nat → Nat → Int32) : q_sem (d + 1) mX11_fill 21 [.ref 0, .int x1, .int x2, .int x3] [.int y0] (q_K o g) = (if y0 = 0 then (q_sem d mX11_finding 0 [.ref 0, .int 1] [] (q_K o g)).bind (fun r => q_sem (d + 1) mX11_fill 39 [.ref 0, .int x1, .int x2, .int x3] (r.1.toList ++ []) r.2) else (q_sem d mX11_within 0 [.int x3, .int 0, .int 99] [] (q_K o g)).bind (fun r => q_sem (d + 1) mX11_fill 31 [.ref 0, .int x1, .int x2, .int x3] (r.1.toList ++ []) r.2)) := by
  refine (q_blk (Y := mX11_fill) (q_dcC dX11_fill_21 q_dcN) (show _ = some ((if q_cc .eq y0 0 = true then 34 else 24), [.ref 0, .int x1, .int x2, .int x3], []) from rfl)).trans ?_
  by_cases c1 : y0 = 0
  · rw [if_pos (show q_cc .eq y0 0 = true from decide_eq_true c1)]
    refine Eq.trans ?_ (if_pos c1).symm
    refine (q_blk (Y := mX11_fill) (q_dcC dX11_fill_34 (q_dcC dX11_fill_35 q_dcN)) (show _ = some (36, [.ref 0, .int x1, .int x2, .int x3], [.int 1, .ref 0]) from rfl)).trans ?_
    exact K_calV (d := d) (Y := mX11_fill) (Z := mX11_finding) (vs := [.int 1]) (rest := []) (la := [.ref 0, .int 1]) dX11_fill_36 rfl rfl rfl rfl ⟨by decide, rfl⟩ (Nat.le_of_ble_eq_true rfl) rfl (Nat.le_of_ble_eq_true rfl)
  · rw [if_neg (show ¬ q_cc .eq y0 0 = true from fun z => c1 (of_decide_eq_true z))]
    refine Eq.trans ?_ (if_neg c1).symm
    refine (q_blk (Y := mX11_fill) (q_dcC dX11_fill_24 (q_dcC dX11_fill_25 (q_dcC dX11_fill_26 q_dcN))) (show _ = some (28, [.ref 0, .int x1, .int x2, .int x3], [.int 99, .int 0, .int x3]) from rfl)).trans ?_
    exact K_calS (d := d) (Y := mX11_fill) (Z := mX11_within) (vs := [.int x3, .int 0, .int 99]) (rest := []) (la := [.int x3, .int 0, .int 99]) dX11_fill_28 rfl rfl rfl rfl (Nat.le_of_ble_eq_true rfl) rfl (Nat.le_of_ble_eq_true rfl)
theorem B_X11_fill_31 {o : q_H} (d : Nat) (x1 x2 x3 y0 : Int32) (g : Nat → Nat → Int32) : q_sem (d + 1) mX11_fill 31 [.ref 0, .int x1, .int x2, .int x3] [.int y0] (q_K o g) = (if y0 = 0 then (q_sem d mX11_finding 0 [.ref 0, .int 1] [] (q_K o g)).bind (fun r => q_sem (d + 1) mX11_fill 39 [.ref 0, .int x1, .int x2, .int x3] (r.1.toList ++ []) r.2) else (q_sem d mX10_isA 0 [.ref 1, .int x1, .int 4, .retAddr 0, .retAddr 0] [] (q_K o g)).bind (fun r => q_sem (d + 1) mX11_fill 49 [.ref 0, .int x1, .int x2, .int x3] (r.1.toList ++ []) r.2)) := by
  refine (q_blk (Y := mX11_fill) (q_dcC dX11_fill_31 q_dcN) (show _ = some ((if q_cc .ne y0 0 = true then 40 else 34), [.ref 0, .int x1, .int x2, .int x3], []) from rfl)).trans ?_
  by_cases c1 : y0 = 0
  · rw [if_neg (show ¬ q_cc .ne y0 0 = true from fun z => (of_decide_eq_true z : ¬ y0 = 0) c1)]
    refine Eq.trans ?_ (if_pos c1).symm
    refine (q_blk (Y := mX11_fill) (q_dcC dX11_fill_34 (q_dcC dX11_fill_35 q_dcN)) (show _ = some (36, [.ref 0, .int x1, .int x2, .int x3], [.int 1, .ref 0]) from rfl)).trans ?_
    exact K_calV (d := d) (Y := mX11_fill) (Z := mX11_finding) (vs := [.int 1]) (rest := []) (la := [.ref 0, .int 1]) dX11_fill_36 rfl rfl rfl rfl ⟨by decide, rfl⟩ (Nat.le_of_ble_eq_true rfl) rfl (Nat.le_of_ble_eq_true rfl)
  · rw [if_pos (show q_cc .ne y0 0 = true from decide_eq_true c1)]
    refine Eq.trans ?_ (if_neg c1).symm
    refine (q_blk (Y := mX11_fill) (q_dcC dX11_fill_40 q_dcN) (show _ = some (41, [.ref 0, .int x1, .int x2, .int x3], [.ref 0]) from rfl)).trans ?_
    refine (k_getr (Y := mX11_fill) dX11_fill_41 rfl rfl ⟨by decide, rfl⟩ (by decide) rfl).trans ?_
    refine (q_blk (Y := mX11_fill) (q_dcC dX11_fill_44 (q_dcC dX11_fill_45 q_dcN)) (show _ = some (46, [.ref 0, .int x1, .int x2, .int x3], [.int 4, .int x1, .ref 1]) from rfl)).trans ?_
    exact K_calV (d := d) (Y := mX11_fill) (Z := mX10_isA) (vs := [.int x1, .int 4]) (rest := []) (la := [.ref 1, .int x1, .int 4, .retAddr 0, .retAddr 0]) dX11_fill_46 rfl rfl rfl rfl ⟨by decide, rfl⟩ (Nat.le_of_ble_eq_true rfl) rfl (Nat.le_of_ble_eq_true rfl)
theorem B_X11_fill_49 {o : q_H} (d : Nat) (x1 x2 x3 y0 : Int32) (g : Nat → Nat → Int32) : q_sem (d + 1) mX11_fill 49 [.ref 0, .int x1, .int x2, .int x3] [.int y0] (q_K o g) = (if y0 = 0 then (q_sem d mX11_finding 0 [.ref 0, .int 5] [] (q_K o g)).bind (fun r => q_sem (d + 1) mX11_fill 57 [.ref 0, .int x1, .int x2, .int x3] (r.1.toList ++ []) r.2) else (q_sem d mX10_stands 0 [.ref 1, .int x1, .int 1] [] (q_K o g)).bind (fun r => q_sem (d + 1) mX11_fill 67 [.ref 0, .int x1, .int x2, .int x3] (r.1.toList ++ []) r.2)) := by
  refine (q_blk (Y := mX11_fill) (q_dcC dX11_fill_49 q_dcN) (show _ = some ((if q_cc .ne y0 0 = true then 58 else 52), [.ref 0, .int x1, .int x2, .int x3], []) from rfl)).trans ?_
  by_cases c1 : y0 = 0
  · rw [if_neg (show ¬ q_cc .ne y0 0 = true from fun z => (of_decide_eq_true z : ¬ y0 = 0) c1)]
    refine Eq.trans ?_ (if_pos c1).symm
    refine (q_blk (Y := mX11_fill) (q_dcC dX11_fill_52 (q_dcC dX11_fill_53 q_dcN)) (show _ = some (54, [.ref 0, .int x1, .int x2, .int x3], [.int 5, .ref 0]) from rfl)).trans ?_
    exact K_calV (d := d) (Y := mX11_fill) (Z := mX11_finding) (vs := [.int 5]) (rest := []) (la := [.ref 0, .int 5]) dX11_fill_54 rfl rfl rfl rfl ⟨by decide, rfl⟩ (Nat.le_of_ble_eq_true rfl) rfl (Nat.le_of_ble_eq_true rfl)
  · rw [if_pos (show q_cc .ne y0 0 = true from decide_eq_true c1)]
    refine Eq.trans ?_ (if_neg c1).symm
    refine (q_blk (Y := mX11_fill) (q_dcC dX11_fill_58 q_dcN) (show _ = some (59, [.ref 0, .int x1, .int x2, .int x3], [.ref 0]) from rfl)).trans ?_
    refine (k_getr (Y := mX11_fill) dX11_fill_59 rfl rfl ⟨by decide, rfl⟩ (by decide) rfl).trans ?_
    refine (q_blk (Y := mX11_fill) (q_dcC dX11_fill_62 (q_dcC dX11_fill_63 q_dcN)) (show _ = some (64, [.ref 0, .int x1, .int x2, .int x3], [.int 1, .int x1, .ref 1]) from rfl)).trans ?_
    exact K_calV (d := d) (Y := mX11_fill) (Z := mX10_stands) (vs := [.int x1, .int 1]) (rest := []) (la := [.ref 1, .int x1, .int 1]) dX11_fill_64 rfl rfl rfl rfl ⟨by decide, rfl⟩ (Nat.le_of_ble_eq_true rfl) rfl (Nat.le_of_ble_eq_true rfl)
theorem B_X11_fill_57 {o : q_H} (d : Nat) (x1 x2 x3 y0 : Int32) (g : Nat → Nat → Int32) : q_sem (d) mX11_fill 57 [.ref 0, .int x1, .int x2, .int x3] [.int y0] (q_K o g) = some (some (.int y0), q_K o g) := by
  exact k_iret (Y := mX11_fill) dX11_fill_57 rfl
theorem B_X11_fill_67 {o : q_H} (d : Nat) (x1 x2 x3 y0 : Int32) (g : Nat → Nat → Int32) : q_sem (d + 1) mX11_fill 67 [.ref 0, .int x1, .int x2, .int x3] [.int y0] (q_K o g) = (if y0 = 0 then (q_sem d mX11_finding 0 [.ref 0, .int 3] [] (q_K o g)).bind (fun r => q_sem (d + 1) mX11_fill 75 [.ref 0, .int x1, .int x2, .int x3] (r.1.toList ++ []) r.2) else (q_sem d mX11_load 0 [.ref 0, .int x1, .int x2, .int x3] [] (q_K o g)).bind (fun r => q_sem (d + 1) mX11_fill 83 [.ref 0, .int x1, .int x2, .int x3] (r.1.toList ++ []) r.2)) := by
  refine (q_blk (Y := mX11_fill) (q_dcC dX11_fill_67 q_dcN) (show _ = some ((if q_cc .ne y0 0 = true then 76 else 70), [.ref 0, .int x1, .int x2, .int x3], []) from rfl)).trans ?_
  by_cases c1 : y0 = 0
  · rw [if_neg (show ¬ q_cc .ne y0 0 = true from fun z => (of_decide_eq_true z : ¬ y0 = 0) c1)]
    refine Eq.trans ?_ (if_pos c1).symm
    refine (q_blk (Y := mX11_fill) (q_dcC dX11_fill_70 (q_dcC dX11_fill_71 q_dcN)) (show _ = some (72, [.ref 0, .int x1, .int x2, .int x3], [.int 3, .ref 0]) from rfl)).trans ?_
    exact K_calV (d := d) (Y := mX11_fill) (Z := mX11_finding) (vs := [.int 3]) (rest := []) (la := [.ref 0, .int 3]) dX11_fill_72 rfl rfl rfl rfl ⟨by decide, rfl⟩ (Nat.le_of_ble_eq_true rfl) rfl (Nat.le_of_ble_eq_true rfl)
  · rw [if_pos (show q_cc .ne y0 0 = true from decide_eq_true c1)]
    refine Eq.trans ?_ (if_neg c1).symm
    refine (q_blk (Y := mX11_fill) (q_dcC dX11_fill_76 (q_dcC dX11_fill_77 (q_dcC dX11_fill_78 (q_dcC dX11_fill_79 q_dcN)))) (show _ = some (80, [.ref 0, .int x1, .int x2, .int x3], [.int x3, .int x2, .int x1, .ref 0]) from rfl)).trans ?_
    exact K_calV (d := d) (Y := mX11_fill) (Z := mX11_load) (vs := [.int x1, .int x2, .int x3]) (rest := []) (la := [.ref 0, .int x1, .int x2, .int x3]) dX11_fill_80 rfl rfl rfl rfl ⟨by decide, rfl⟩ (Nat.le_of_ble_eq_true rfl) rfl (Nat.le_of_ble_eq_true rfl)
theorem B_X11_fill_75 {o : q_H} (d : Nat) (x1 x2 x3 y0 : Int32) (g : Nat → Nat → Int32) : q_sem (d) mX11_fill 75 [.ref 0, .int x1, .int x2, .int x3] [.int y0] (q_K o g) = some (some (.int y0), q_K o g) := by
  exact k_iret (Y := mX11_fill) dX11_fill_75 rfl
theorem B_X11_fill_83 {o : q_H} (d : Nat) (x1 x2 x3 : Int32) (g : Nat → Nat → Int32) : q_sem (d) mX11_fill 83 [.ref 0, .int x1, .int x2, .int x3] [] (q_K o g) = some (some (.int 1), q_K o g) := by
  refine (q_blk (Y := mX11_fill) (q_dcC dX11_fill_83 q_dcN) (show _ = some (84, [.ref 0, .int x1, .int x2, .int x3], [.int 1]) from rfl)).trans ?_
  exact k_iret (Y := mX11_fill) dX11_fill_84 rfl
theorem B_X11_feed_0 {o : q_H} (d : Nat) (x3 : Int32) (z1 : Int64) (g : Nat → Nat → Int32) : q_sem (d + 1) mX11_feed 0 [.ref 0, .long z1, .retAddr 0, .int x3, .retAddr 0, .retAddr 0] [] (q_K o g) = (q_sem d mX11_within 0 [.int x3, .int 1, .int 8] [] (q_K o g)).bind (fun r => q_sem (d + 1) mX11_feed 7 [.ref 0, .long z1, .retAddr 0, .int x3, .retAddr 0, .retAddr 0] (r.1.toList ++ []) r.2) := by
  refine (q_blk (Y := mX11_feed) (q_dcC dX11_feed_0 (q_dcC dX11_feed_1 (q_dcC dX11_feed_2 q_dcN))) (show _ = some (4, [.ref 0, .long z1, .retAddr 0, .int x3, .retAddr 0, .retAddr 0], [.int 8, .int 1, .int x3]) from rfl)).trans ?_
  exact K_calS (d := d) (Y := mX11_feed) (Z := mX11_within) (vs := [.int x3, .int 1, .int 8]) (rest := []) (la := [.int x3, .int 1, .int 8]) dX11_feed_4 rfl rfl rfl rfl (Nat.le_of_ble_eq_true rfl) rfl (Nat.le_of_ble_eq_true rfl)
theorem B_X11_feed_7 {o : q_H} (d : Nat) (x3 y0 : Int32) (z1 : Int64) (g : Nat → Nat → Int32) : q_sem (d + 1) mX11_feed 7 [.ref 0, .long z1, .retAddr 0, .int x3, .retAddr 0, .retAddr 0] [.int y0] (q_K o g) = (if y0 = 0 then (q_sem d mX11_finding 0 [.ref 0, .int 1] [] (q_K o g)).bind (fun r => q_sem (d + 1) mX11_feed 15 [.ref 0, .long z1, .retAddr 0, .int x3, .retAddr 0, .retAddr 0] (r.1.toList ++ []) r.2) else (q_sem d mX7_size 0 [.ref 19] [] (q_K o g)).bind (fun r => q_sem (d + 1) mX11_feed 33 [.ref 0, .long z1, .retAddr 0, .int x3, .ref 19, .retAddr 0] (r.1.toList ++ []) r.2)) := by
  refine (q_blk (Y := mX11_feed) (q_dcC dX11_feed_7 q_dcN) (show _ = some ((if q_cc .ne y0 0 = true then 16 else 10), [.ref 0, .long z1, .retAddr 0, .int x3, .retAddr 0, .retAddr 0], []) from rfl)).trans ?_
  by_cases c1 : y0 = 0
  · rw [if_neg (show ¬ q_cc .ne y0 0 = true from fun z => (of_decide_eq_true z : ¬ y0 = 0) c1)]
    refine Eq.trans ?_ (if_pos c1).symm
    refine (q_blk (Y := mX11_feed) (q_dcC dX11_feed_10 (q_dcC dX11_feed_11 q_dcN)) (show _ = some (12, [.ref 0, .long z1, .retAddr 0, .int x3, .retAddr 0, .retAddr 0], [.int 1, .ref 0]) from rfl)).trans ?_
    exact K_calV (d := d) (Y := mX11_feed) (Z := mX11_finding) (vs := [.int 1]) (rest := []) (la := [.ref 0, .int 1]) dX11_feed_12 rfl rfl rfl rfl ⟨by decide, rfl⟩ (Nat.le_of_ble_eq_true rfl) rfl (Nat.le_of_ble_eq_true rfl)
  · rw [if_pos (show q_cc .ne y0 0 = true from decide_eq_true c1)]
    refine Eq.trans ?_ (if_neg c1).symm
    refine (q_blk (Y := mX11_feed) (q_dcC dX11_feed_16 q_dcN) (show _ = some (17, [.ref 0, .long z1, .retAddr 0, .int x3, .retAddr 0, .retAddr 0], [.ref 0]) from rfl)).trans ?_
    refine (k_getr (Y := mX11_feed) dX11_feed_17 rfl rfl ⟨by decide, rfl⟩ (by decide) rfl).trans ?_
    refine (k_getr (Y := mX11_feed) dX11_feed_20 rfl rfl ⟨by decide, rfl⟩ (by decide) rfl).trans ?_
    refine (k_getr (Y := mX11_feed) dX11_feed_23 rfl rfl ⟨by decide, rfl⟩ (by decide) rfl).trans ?_
    refine (q_blk (Y := mX11_feed) (q_dcC dX11_feed_26 (q_dcC dX11_feed_28 q_dcN)) (show _ = some (30, [.ref 0, .long z1, .retAddr 0, .int x3, .ref 19, .retAddr 0], [.ref 19]) from rfl)).trans ?_
    exact K_calV (d := d) (Y := mX11_feed) (Z := mX7_size) (vs := []) (rest := []) (la := [.ref 19]) dX11_feed_30 rfl rfl rfl rfl ⟨by decide, rfl⟩ (Nat.le_of_ble_eq_true rfl) rfl (Nat.le_of_ble_eq_true rfl)
theorem B_X11_feed_15 {o : q_H} (d : Nat) (x3 y0 : Int32) (z1 : Int64) (g : Nat → Nat → Int32) : q_sem (d) mX11_feed 15 [.ref 0, .long z1, .retAddr 0, .int x3, .retAddr 0, .retAddr 0] [.int y0] (q_K o g) = some (some (.int y0), q_K o g) := by
  exact k_iret (Y := mX11_feed) dX11_feed_15 rfl
theorem B_X11_feed_33 {o : q_H} (d : Nat) (x3 y0 : Int32) (z1 : Int64) (g : Nat → Nat → Int32) : q_sem (d + 1) mX11_feed 33 [.ref 0, .long z1, .retAddr 0, .int x3, .ref 19, .retAddr 0] [.int y0] (q_K o g) = (if (y0 + x3) ≤ 50 then q_sem (d + 1) mX11_feed 49 [.ref 0, .long z1, .retAddr 0, .int x3, .ref 19, .int 0] [] (q_K o g) else (q_sem d mX11_finding 0 [.ref 0, .int 4] [] (q_K o g)).bind (fun r => q_sem (d + 1) mX11_feed 45 [.ref 0, .long z1, .retAddr 0, .int x3, .ref 19, .retAddr 0] (r.1.toList ++ []) r.2)) := by
  refine (q_blk (Y := mX11_feed) (q_dcC dX11_feed_33 (q_dcC dX11_feed_34 (q_dcC dX11_feed_35 (q_dcC dX11_feed_37 q_dcN)))) (show _ = some ((if q_cc .le (y0 + x3) 50 = true then 46 else 40), [.ref 0, .long z1, .retAddr 0, .int x3, .ref 19, .retAddr 0], []) from rfl)).trans ?_
  by_cases c1 : (y0 + x3) ≤ 50
  · rw [if_pos (show q_cc .le (y0 + x3) 50 = true from decide_eq_true c1)]
    refine Eq.trans ?_ (if_pos c1).symm
    refine (q_blk (Y := mX11_feed) (q_dcC dX11_feed_46 (q_dcC dX11_feed_47 q_dcN)) (show _ = some (49, [.ref 0, .long z1, .retAddr 0, .int x3, .ref 19, .int 0], []) from rfl)).trans ?_
    rfl
  · rw [if_neg (show ¬ q_cc .le (y0 + x3) 50 = true from fun z => c1 (of_decide_eq_true z))]
    refine Eq.trans ?_ (if_neg c1).symm
    refine (q_blk (Y := mX11_feed) (q_dcC dX11_feed_40 (q_dcC dX11_feed_41 q_dcN)) (show _ = some (42, [.ref 0, .long z1, .retAddr 0, .int x3, .ref 19, .retAddr 0], [.int 4, .ref 0]) from rfl)).trans ?_
    exact K_calV (d := d) (Y := mX11_feed) (Z := mX11_finding) (vs := [.int 4]) (rest := []) (la := [.ref 0, .int 4]) dX11_feed_42 rfl rfl rfl rfl ⟨by decide, rfl⟩ (Nat.le_of_ble_eq_true rfl) rfl (Nat.le_of_ble_eq_true rfl)
theorem B_X11_feed_49 {o : q_H} (d : Nat) (x3 x5 : Int32) (z1 : Int64) (g : Nat → Nat → Int32) : q_sem (d + 1) mX11_feed 49 [.ref 0, .long z1, .retAddr 0, .int x3, .ref 19, .int x5] [] (q_K o g) = (if x3 ≤ x5 then (q_sem d mX7_size 0 [.ref 19] [] (q_K o g)).bind (fun r => q_sem (d + 1) mX11_feed 84 [.ref 0, .long z1, .retAddr 0, .int x3, .ref 19, .int x5] (r.1.toList ++ []) r.2) else (q_sem d mX7_add 0 [.ref 19, .int ((((z1 : Int64).toUInt64 >>> (((8 * x5) : Int32).toInt64.toUInt64 &&& Int64.toUInt64 63)).toInt64 : Int64).toInt32 &&& 255), .retAddr 0] [] (q_K o g)).bind (fun r => q_sem (d + 1) mX11_feed 72 [.ref 0, .long z1, .retAddr 0, .int x3, .ref 19, .int x5] (r.1.toList ++ []) r.2)) := by
  refine (q_blk (Y := mX11_feed) (q_dcC dX11_feed_49 (q_dcC dX11_feed_51 (q_dcC dX11_feed_52 q_dcN))) (show _ = some ((if q_cc .ge x5 x3 = true then 79 else 55), [.ref 0, .long z1, .retAddr 0, .int x3, .ref 19, .int x5], []) from rfl)).trans ?_
  by_cases c1 : x3 ≤ x5
  · rw [if_pos (show q_cc .ge x5 x3 = true from decide_eq_true c1)]
    refine Eq.trans ?_ (if_pos c1).symm
    refine (q_blk (Y := mX11_feed) (q_dcC dX11_feed_79 q_dcN) (show _ = some (81, [.ref 0, .long z1, .retAddr 0, .int x3, .ref 19, .int x5], [.ref 19]) from rfl)).trans ?_
    exact K_calV (d := d) (Y := mX11_feed) (Z := mX7_size) (vs := []) (rest := []) (la := [.ref 19]) dX11_feed_81 rfl rfl rfl rfl ⟨by decide, rfl⟩ (Nat.le_of_ble_eq_true rfl) rfl (Nat.le_of_ble_eq_true rfl)
  · rw [if_neg (show ¬ q_cc .ge x5 x3 = true from fun z => c1 (of_decide_eq_true z))]
    refine Eq.trans ?_ (if_neg c1).symm
    refine (q_blk (Y := mX11_feed) (q_dcC dX11_feed_55 (q_dcC dX11_feed_57 (q_dcC dX11_feed_58 (q_dcC dX11_feed_60 (q_dcC dX11_feed_62 (q_dcC dX11_feed_63 (q_dcC dX11_feed_64 (q_dcC dX11_feed_65 (q_dcC dX11_feed_68 q_dcN))))))))) (show _ = some (69, [.ref 0, .long z1, .retAddr 0, .int x3, .ref 19, .int x5], [.int ((((z1 : Int64).toUInt64 >>> (((8 * x5) : Int32).toInt64.toUInt64 &&& Int64.toUInt64 63)).toInt64 : Int64).toInt32 &&& 255), .ref 19]) from rfl)).trans ?_
    exact K_calV (d := d) (Y := mX11_feed) (Z := mX7_add) (vs := [.int ((((z1 : Int64).toUInt64 >>> (((8 * x5) : Int32).toInt64.toUInt64 &&& Int64.toUInt64 63)).toInt64 : Int64).toInt32 &&& 255)]) (rest := []) (la := [.ref 19, .int ((((z1 : Int64).toUInt64 >>> (((8 * x5) : Int32).toInt64.toUInt64 &&& Int64.toUInt64 63)).toInt64 : Int64).toInt32 &&& 255), .retAddr 0]) dX11_feed_69 rfl rfl rfl rfl ⟨by decide, rfl⟩ (Nat.le_of_ble_eq_true rfl) rfl (Nat.le_of_ble_eq_true rfl)
theorem B_X11_feed_45 {o : q_H} (d : Nat) (x3 y0 : Int32) (z1 : Int64) (g : Nat → Nat → Int32) : q_sem (d) mX11_feed 45 [.ref 0, .long z1, .retAddr 0, .int x3, .ref 19, .retAddr 0] [.int y0] (q_K o g) = some (some (.int y0), q_K o g) := by
  exact k_iret (Y := mX11_feed) dX11_feed_45 rfl
theorem B_X11_feed_84 {o : q_H} (d : Nat) (x3 x5 y0 : Int32) (z1 : Int64) (g : Nat → Nat → Int32) : q_sem (d) mX11_feed 84 [.ref 0, .long z1, .retAddr 0, .int x3, .ref 19, .int x5] [.int y0] (q_K o g) = some (some (.int y0), q_K o g) := by
  exact k_iret (Y := mX11_feed) dX11_feed_84 rfl
theorem B_X11_feed_72 {o : q_H} (d : Nat) (x3 x5 y0 : Int32) (z1 : Int64) (g : Nat → Nat → Int32) : q_sem (d) mX11_feed 72 [.ref 0, .long z1, .retAddr 0, .int x3, .ref 19, .int x5] [.int y0] (q_K o g) = q_sem (d) mX11_feed 49 [.ref 0, .long z1, .retAddr 0, .int x3, .ref 19, .int (x5 + 1)] [] (q_K o g) := by
  refine (q_blk (Y := mX11_feed) (q_dcC dX11_feed_72 (q_dcC dX11_feed_73 (q_dcC dX11_feed_76 q_dcN))) (show _ = some (49, [.ref 0, .long z1, .retAddr 0, .int x3, .ref 19, .int (x5 + 1)], []) from rfl)).trans ?_
  rfl
theorem B_X11_rule_0 {o : q_H} (d : Nat) (x1 x2 : Int32) (g : Nat → Nat → Int32) : q_sem (d + 1) mX11_rule 0 [.ref 0, .int x1, .int x2, .retAddr 0] [] (q_K o g) = (q_sem d mX11_within 0 [.int x1, .int 0, .int 2] [] (q_K o g)).bind (fun r => q_sem (d + 1) mX11_rule 6 [.ref 0, .int x1, .int x2, .retAddr 0] (r.1.toList ++ []) r.2) := by
  refine (q_blk (Y := mX11_rule) (q_dcC dX11_rule_0 (q_dcC dX11_rule_1 (q_dcC dX11_rule_2 q_dcN))) (show _ = some (3, [.ref 0, .int x1, .int x2, .retAddr 0], [.int 2, .int 0, .int x1]) from rfl)).trans ?_
  exact K_calS (d := d) (Y := mX11_rule) (Z := mX11_within) (vs := [.int x1, .int 0, .int 2]) (rest := []) (la := [.int x1, .int 0, .int 2]) dX11_rule_3 rfl rfl rfl rfl (Nat.le_of_ble_eq_true rfl) rfl (Nat.le_of_ble_eq_true rfl)
theorem B_X11_rule_6 {o : q_H} (d : Nat) (x1 x2 y0 : Int32) (g : Nat → Nat → Int32) : q_sem (d + 1) mX11_rule 6 [.ref 0, .int x1, .int x2, .retAddr 0] [.int y0] (q_K o g) = (if y0 = 0 then (q_sem d mX11_finding 0 [.ref 0, .int 1] [] (q_K o g)).bind (fun r => q_sem (d + 1) mX11_rule 25 [.ref 0, .int x1, .int x2, .retAddr 0] (r.1.toList ++ []) r.2) else (q_sem d mX11_within 0 [.int x2, .int 0, .int 1000] [] (q_K o g)).bind (fun r => q_sem (d + 1) mX11_rule 17 [.ref 0, .int x1, .int x2, .retAddr 0] (r.1.toList ++ []) r.2)) := by
  refine (q_blk (Y := mX11_rule) (q_dcC dX11_rule_6 q_dcN) (show _ = some ((if q_cc .eq y0 0 = true then 20 else 9), [.ref 0, .int x1, .int x2, .retAddr 0], []) from rfl)).trans ?_
  by_cases c1 : y0 = 0
  · rw [if_pos (show q_cc .eq y0 0 = true from decide_eq_true c1)]
    refine Eq.trans ?_ (if_pos c1).symm
    refine (q_blk (Y := mX11_rule) (q_dcC dX11_rule_20 (q_dcC dX11_rule_21 q_dcN)) (show _ = some (22, [.ref 0, .int x1, .int x2, .retAddr 0], [.int 1, .ref 0]) from rfl)).trans ?_
    exact K_calV (d := d) (Y := mX11_rule) (Z := mX11_finding) (vs := [.int 1]) (rest := []) (la := [.ref 0, .int 1]) dX11_rule_22 rfl rfl rfl rfl ⟨by decide, rfl⟩ (Nat.le_of_ble_eq_true rfl) rfl (Nat.le_of_ble_eq_true rfl)
  · rw [if_neg (show ¬ q_cc .eq y0 0 = true from fun z => c1 (of_decide_eq_true z))]
    refine Eq.trans ?_ (if_neg c1).symm
    refine (q_blk (Y := mX11_rule) (q_dcC dX11_rule_9 (q_dcC dX11_rule_10 (q_dcC dX11_rule_11 q_dcN))) (show _ = some (14, [.ref 0, .int x1, .int x2, .retAddr 0], [.int 1000, .int 0, .int x2]) from rfl)).trans ?_
    exact K_calS (d := d) (Y := mX11_rule) (Z := mX11_within) (vs := [.int x2, .int 0, .int 1000]) (rest := []) (la := [.int x2, .int 0, .int 1000]) dX11_rule_14 rfl rfl rfl rfl (Nat.le_of_ble_eq_true rfl) rfl (Nat.le_of_ble_eq_true rfl)
theorem B_X11_rule_25 {o : q_H} (d : Nat) (x1 x2 y0 : Int32) (g : Nat → Nat → Int32) : q_sem (d) mX11_rule 25 [.ref 0, .int x1, .int x2, .retAddr 0] [.int y0] (q_K o g) = some (some (.int y0), q_K o g) := by
  exact k_iret (Y := mX11_rule) dX11_rule_25 rfl
theorem B_X11_rule_17 {o : q_H} (d : Nat) (x1 x2 y0 : Int32) (g : Nat → Nat → Int32) : q_sem (d + 1) mX11_rule 17 [.ref 0, .int x1, .int x2, .retAddr 0] [.int y0] (q_K o g) = (if y0 = 0 then (q_sem d mX11_finding 0 [.ref 0, .int 1] [] (q_K o g)).bind (fun r => q_sem (d + 1) mX11_rule 25 [.ref 0, .int x1, .int x2, .retAddr 0] (r.1.toList ++ []) r.2) else (q_sem d mX7_isFull 0 [.ref 17] [] (q_K o g)).bind (fun r => q_sem (d + 1) mX11_rule 39 [.ref 0, .int x1, .int x2, .retAddr 0] (r.1.toList ++ []) r.2)) := by
  refine (q_blk (Y := mX11_rule) (q_dcC dX11_rule_17 q_dcN) (show _ = some ((if q_cc .ne y0 0 = true then 26 else 20), [.ref 0, .int x1, .int x2, .retAddr 0], []) from rfl)).trans ?_
  by_cases c1 : y0 = 0
  · rw [if_neg (show ¬ q_cc .ne y0 0 = true from fun z => (of_decide_eq_true z : ¬ y0 = 0) c1)]
    refine Eq.trans ?_ (if_pos c1).symm
    refine (q_blk (Y := mX11_rule) (q_dcC dX11_rule_20 (q_dcC dX11_rule_21 q_dcN)) (show _ = some (22, [.ref 0, .int x1, .int x2, .retAddr 0], [.int 1, .ref 0]) from rfl)).trans ?_
    exact K_calV (d := d) (Y := mX11_rule) (Z := mX11_finding) (vs := [.int 1]) (rest := []) (la := [.ref 0, .int 1]) dX11_rule_22 rfl rfl rfl rfl ⟨by decide, rfl⟩ (Nat.le_of_ble_eq_true rfl) rfl (Nat.le_of_ble_eq_true rfl)
  · rw [if_pos (show q_cc .ne y0 0 = true from decide_eq_true c1)]
    refine Eq.trans ?_ (if_neg c1).symm
    refine (q_blk (Y := mX11_rule) (q_dcC dX11_rule_26 q_dcN) (show _ = some (27, [.ref 0, .int x1, .int x2, .retAddr 0], [.ref 0]) from rfl)).trans ?_
    refine (k_getr (Y := mX11_rule) dX11_rule_27 rfl rfl ⟨by decide, rfl⟩ (by decide) rfl).trans ?_
    refine (k_getr (Y := mX11_rule) dX11_rule_30 rfl rfl ⟨by decide, rfl⟩ (by decide) rfl).trans ?_
    refine (k_getr (Y := mX11_rule) dX11_rule_33 rfl rfl ⟨by decide, rfl⟩ (by decide) rfl).trans ?_
    exact K_calV (d := d) (Y := mX11_rule) (Z := mX7_isFull) (vs := []) (rest := []) (la := [.ref 17]) dX11_rule_36 rfl rfl rfl rfl ⟨by decide, rfl⟩ (Nat.le_of_ble_eq_true rfl) rfl (Nat.le_of_ble_eq_true rfl)
theorem B_X11_rule_39 {o : q_H} (d : Nat) (x1 x2 y0 : Int32) (g : Nat → Nat → Int32) : q_sem (d + 1) mX11_rule 39 [.ref 0, .int x1, .int x2, .retAddr 0] [.int y0] (q_K o g) = (if y0 = 0 then (q_sem d mX8_read 0 [.ref 67, .int x1] [] (q_K o g)).bind (fun r => q_sem (d + 1) mX11_rule 56 [.ref 0, .int x1, .int x2, .retAddr 0] (r.1.toList ++ []) r.2) else (q_sem d mX11_finding 0 [.ref 0, .int 4] [] (q_K o g)).bind (fun r => q_sem (d + 1) mX11_rule 47 [.ref 0, .int x1, .int x2, .retAddr 0] (r.1.toList ++ []) r.2)) := by
  refine (q_blk (Y := mX11_rule) (q_dcC dX11_rule_39 q_dcN) (show _ = some ((if q_cc .eq y0 0 = true then 48 else 42), [.ref 0, .int x1, .int x2, .retAddr 0], []) from rfl)).trans ?_
  by_cases c1 : y0 = 0
  · rw [if_pos (show q_cc .eq y0 0 = true from decide_eq_true c1)]
    refine Eq.trans ?_ (if_pos c1).symm
    refine (q_blk (Y := mX11_rule) (q_dcC dX11_rule_48 q_dcN) (show _ = some (49, [.ref 0, .int x1, .int x2, .retAddr 0], [.ref 0]) from rfl)).trans ?_
    refine (k_getr (Y := mX11_rule) dX11_rule_49 rfl rfl ⟨by decide, rfl⟩ (by decide) rfl).trans ?_
    refine (q_blk (Y := mX11_rule) (q_dcC dX11_rule_52 q_dcN) (show _ = some (53, [.ref 0, .int x1, .int x2, .retAddr 0], [.int x1, .ref 67]) from rfl)).trans ?_
    exact K_calV (d := d) (Y := mX11_rule) (Z := mX8_read) (vs := [.int x1]) (rest := []) (la := [.ref 67, .int x1]) dX11_rule_53 rfl rfl rfl rfl ⟨by decide, rfl⟩ (Nat.le_of_ble_eq_true rfl) rfl (Nat.le_of_ble_eq_true rfl)
  · rw [if_neg (show ¬ q_cc .eq y0 0 = true from fun z => c1 (of_decide_eq_true z))]
    refine Eq.trans ?_ (if_neg c1).symm
    refine (q_blk (Y := mX11_rule) (q_dcC dX11_rule_42 (q_dcC dX11_rule_43 q_dcN)) (show _ = some (44, [.ref 0, .int x1, .int x2, .retAddr 0], [.int 4, .ref 0]) from rfl)).trans ?_
    exact K_calV (d := d) (Y := mX11_rule) (Z := mX11_finding) (vs := [.int 4]) (rest := []) (la := [.ref 0, .int 4]) dX11_rule_44 rfl rfl rfl rfl ⟨by decide, rfl⟩ (Nat.le_of_ble_eq_true rfl) rfl (Nat.le_of_ble_eq_true rfl)
theorem B_X11_rule_56 {o : q_H} (d : Nat) (x1 x2 y0 : Int32) (g : Nat → Nat → Int32) : q_sem (d + 1) mX11_rule 56 [.ref 0, .int x1, .int x2, .retAddr 0] [.int y0] (q_K o g) = (q_sem d mX7_clear 0 [.ref 19] [] (q_K o g)).bind (fun r => q_sem (d + 1) mX11_rule 70 [.ref 0, .int x1, .int x2, .int y0] (r.1.toList ++ []) r.2) := by
  refine (q_blk (Y := mX11_rule) (q_dcC dX11_rule_56 (q_dcC dX11_rule_57 q_dcN)) (show _ = some (58, [.ref 0, .int x1, .int x2, .int y0], [.ref 0]) from rfl)).trans ?_
  refine (k_getr (Y := mX11_rule) dX11_rule_58 rfl rfl ⟨by decide, rfl⟩ (by decide) rfl).trans ?_
  refine (k_getr (Y := mX11_rule) dX11_rule_61 rfl rfl ⟨by decide, rfl⟩ (by decide) rfl).trans ?_
  refine (k_getr (Y := mX11_rule) dX11_rule_64 rfl rfl ⟨by decide, rfl⟩ (by decide) rfl).trans ?_
  exact K_calV (d := d) (Y := mX11_rule) (Z := mX7_clear) (vs := []) (rest := []) (la := [.ref 19]) dX11_rule_67 rfl rfl rfl rfl ⟨by decide, rfl⟩ (Nat.le_of_ble_eq_true rfl) rfl (Nat.le_of_ble_eq_true rfl)
theorem B_X11_rule_47 {o : q_H} (d : Nat) (x1 x2 y0 : Int32) (g : Nat → Nat → Int32) : q_sem (d) mX11_rule 47 [.ref 0, .int x1, .int x2, .retAddr 0] [.int y0] (q_K o g) = some (some (.int y0), q_K o g) := by
  exact k_iret (Y := mX11_rule) dX11_rule_47 rfl
theorem B_X11_rule_70 {o : q_H} (d : Nat) (x1 x2 x3 : Int32) (g : Nat → Nat → Int32) : q_sem (d + 1) mX11_rule 70 [.ref 0, .int x1, .int x2, .int x3] [] (q_K o g) = (if x3 = 0 then (q_sem d mX8_place 0 [.ref 67] [] (q_K o g)).bind (fun r => q_sem (d + 1) mX11_rule 102 [.ref 0, .int x1, .int x2, .int x3] (r.1.toList ++ [.int (-10)]) r.2) else (q_sem d mX5_make 0 [.ref 16, .int x1, .int x2, .ref 67, .retAddr 0, .retAddr 0] [] (q_K o g)).bind (fun r => q_sem (d + 1) mX11_rule 90 [.ref 0, .int x1, .int x2, .int x3] (r.1.toList ++ []) r.2)) := by
  refine (q_blk (Y := mX11_rule) (q_dcC dX11_rule_70 (q_dcC dX11_rule_71 q_dcN)) (show _ = some ((if q_cc .eq x3 0 = true then 93 else 74), [.ref 0, .int x1, .int x2, .int x3], []) from rfl)).trans ?_
  by_cases c1 : x3 = 0
  · rw [if_pos (show q_cc .eq x3 0 = true from decide_eq_true c1)]
    refine Eq.trans ?_ (if_pos c1).symm
    refine (q_blk (Y := mX11_rule) (q_dcC dX11_rule_93 (q_dcC dX11_rule_95 q_dcN)) (show _ = some (96, [.ref 0, .int x1, .int x2, .int x3], [.ref 0, .int (-10)]) from rfl)).trans ?_
    refine (k_getr (Y := mX11_rule) dX11_rule_96 rfl rfl ⟨by decide, rfl⟩ (by decide) rfl).trans ?_
    exact K_calV (d := d) (Y := mX11_rule) (Z := mX8_place) (vs := []) (rest := [.int (-10)]) (la := [.ref 67]) dX11_rule_99 rfl rfl rfl rfl ⟨by decide, rfl⟩ (Nat.le_of_ble_eq_true rfl) rfl (Nat.le_of_ble_eq_true rfl)
  · rw [if_neg (show ¬ q_cc .eq x3 0 = true from fun z => c1 (of_decide_eq_true z))]
    refine Eq.trans ?_ (if_neg c1).symm
    refine (q_blk (Y := mX11_rule) (q_dcC dX11_rule_74 q_dcN) (show _ = some (75, [.ref 0, .int x1, .int x2, .int x3], [.ref 0]) from rfl)).trans ?_
    refine (k_getr (Y := mX11_rule) dX11_rule_75 rfl rfl ⟨by decide, rfl⟩ (by decide) rfl).trans ?_
    refine (k_getr (Y := mX11_rule) dX11_rule_78 rfl rfl ⟨by decide, rfl⟩ (by decide) rfl).trans ?_
    refine (q_blk (Y := mX11_rule) (q_dcC dX11_rule_81 (q_dcC dX11_rule_82 (q_dcC dX11_rule_83 q_dcN))) (show _ = some (84, [.ref 0, .int x1, .int x2, .int x3], [.ref 0, .int x2, .int x1, .ref 16]) from rfl)).trans ?_
    refine (k_getr (Y := mX11_rule) dX11_rule_84 rfl rfl ⟨by decide, rfl⟩ (by decide) rfl).trans ?_
    exact K_calV (d := d) (Y := mX11_rule) (Z := mX5_make) (vs := [.int x1, .int x2, .ref 67]) (rest := []) (la := [.ref 16, .int x1, .int x2, .ref 67, .retAddr 0, .retAddr 0]) dX11_rule_87 rfl rfl rfl rfl ⟨by decide, rfl⟩ (Nat.le_of_ble_eq_true rfl) rfl (Nat.le_of_ble_eq_true rfl)
theorem B_X11_rule_102 {o : q_H} (d : Nat) (x1 x2 x3 y0 y1 : Int32) (g : Nat → Nat → Int32) : q_sem (d) mX11_rule 102 [.ref 0, .int x1, .int x2, .int x3] [.int y0, .int y1] (q_K o g) = some (some (.int (y1 - y0)), q_K o g) := by
  refine (q_blk (Y := mX11_rule) (q_dcC dX11_rule_102 q_dcN) (show _ = some (103, [.ref 0, .int x1, .int x2, .int x3], [.int (y1 - y0)]) from rfl)).trans ?_
  exact k_iret (Y := mX11_rule) dX11_rule_103 rfl
theorem B_X11_rule_90 {o : q_H} (d : Nat) (x1 x2 x3 y0 : Int32) (g : Nat → Nat → Int32) : q_sem (d) mX11_rule 90 [.ref 0, .int x1, .int x2, .int x3] [.int y0] (q_K o g) = some (some (.int y0), q_K o g) := by
  refine (q_blk (Y := mX11_rule) (q_dcC dX11_rule_90 q_dcN) (show _ = some (103, [.ref 0, .int x1, .int x2, .int x3], [.int y0]) from rfl)).trans ?_
  exact k_iret (Y := mX11_rule) dX11_rule_103 rfl
theorem B_X11_force_0 {o : q_H} (d : Nat) (x1 x2 : Int32) (g : Nat → Nat → Int32) : q_sem (d + 1) mX11_force 0 [.ref 0, .int x1, .int x2, .retAddr 0] [] (q_K o g) = (q_sem d mX11_within 0 [.int x1, .int 0, .int 2] [] (q_K o g)).bind (fun r => q_sem (d + 1) mX11_force 6 [.ref 0, .int x1, .int x2, .retAddr 0] (r.1.toList ++ []) r.2) := by
  refine (q_blk (Y := mX11_force) (q_dcC dX11_force_0 (q_dcC dX11_force_1 (q_dcC dX11_force_2 q_dcN))) (show _ = some (3, [.ref 0, .int x1, .int x2, .retAddr 0], [.int 2, .int 0, .int x1]) from rfl)).trans ?_
  exact K_calS (d := d) (Y := mX11_force) (Z := mX11_within) (vs := [.int x1, .int 0, .int 2]) (rest := []) (la := [.int x1, .int 0, .int 2]) dX11_force_3 rfl rfl rfl rfl (Nat.le_of_ble_eq_true rfl) rfl (Nat.le_of_ble_eq_true rfl)
theorem B_X11_force_6 {o : q_H} (d : Nat) (x1 x2 y0 : Int32) (g : Nat → Nat → Int32) : q_sem (d + 1) mX11_force 6 [.ref 0, .int x1, .int x2, .retAddr 0] [.int y0] (q_K o g) = (if y0 = 0 then (q_sem d mX11_finding 0 [.ref 0, .int 1] [] (q_K o g)).bind (fun r => q_sem (d + 1) mX11_force 25 [.ref 0, .int x1, .int x2, .retAddr 0] (r.1.toList ++ []) r.2) else (q_sem d mX11_within 0 [.int x2, .int 0, .int 1000] [] (q_K o g)).bind (fun r => q_sem (d + 1) mX11_force 17 [.ref 0, .int x1, .int x2, .retAddr 0] (r.1.toList ++ []) r.2)) := by
  refine (q_blk (Y := mX11_force) (q_dcC dX11_force_6 q_dcN) (show _ = some ((if q_cc .eq y0 0 = true then 20 else 9), [.ref 0, .int x1, .int x2, .retAddr 0], []) from rfl)).trans ?_
  by_cases c1 : y0 = 0
  · rw [if_pos (show q_cc .eq y0 0 = true from decide_eq_true c1)]
    refine Eq.trans ?_ (if_pos c1).symm
    refine (q_blk (Y := mX11_force) (q_dcC dX11_force_20 (q_dcC dX11_force_21 q_dcN)) (show _ = some (22, [.ref 0, .int x1, .int x2, .retAddr 0], [.int 1, .ref 0]) from rfl)).trans ?_
    exact K_calV (d := d) (Y := mX11_force) (Z := mX11_finding) (vs := [.int 1]) (rest := []) (la := [.ref 0, .int 1]) dX11_force_22 rfl rfl rfl rfl ⟨by decide, rfl⟩ (Nat.le_of_ble_eq_true rfl) rfl (Nat.le_of_ble_eq_true rfl)
  · rw [if_neg (show ¬ q_cc .eq y0 0 = true from fun z => c1 (of_decide_eq_true z))]
    refine Eq.trans ?_ (if_neg c1).symm
    refine (q_blk (Y := mX11_force) (q_dcC dX11_force_9 (q_dcC dX11_force_10 (q_dcC dX11_force_11 q_dcN))) (show _ = some (14, [.ref 0, .int x1, .int x2, .retAddr 0], [.int 1000, .int 0, .int x2]) from rfl)).trans ?_
    exact K_calS (d := d) (Y := mX11_force) (Z := mX11_within) (vs := [.int x2, .int 0, .int 1000]) (rest := []) (la := [.int x2, .int 0, .int 1000]) dX11_force_14 rfl rfl rfl rfl (Nat.le_of_ble_eq_true rfl) rfl (Nat.le_of_ble_eq_true rfl)
theorem B_X11_force_25 {o : q_H} (d : Nat) (x1 x2 y0 : Int32) (g : Nat → Nat → Int32) : q_sem (d) mX11_force 25 [.ref 0, .int x1, .int x2, .retAddr 0] [.int y0] (q_K o g) = some (some (.int y0), q_K o g) := by
  exact k_iret (Y := mX11_force) dX11_force_25 rfl
theorem B_X11_force_17 {o : q_H} (d : Nat) (x1 x2 y0 : Int32) (g : Nat → Nat → Int32) : q_sem (d + 1) mX11_force 17 [.ref 0, .int x1, .int x2, .retAddr 0] [.int y0] (q_K o g) = (if y0 = 0 then (q_sem d mX11_finding 0 [.ref 0, .int 1] [] (q_K o g)).bind (fun r => q_sem (d + 1) mX11_force 25 [.ref 0, .int x1, .int x2, .retAddr 0] (r.1.toList ++ []) r.2) else (q_sem d mX5_inForce 0 [.ref 16, .int x1, .int x2, .retAddr 0] [] (q_K o g)).bind (fun r => q_sem (d + 1) mX11_force 38 [.ref 0, .int x1, .int x2, .retAddr 0] (r.1.toList ++ []) r.2)) := by
  refine (q_blk (Y := mX11_force) (q_dcC dX11_force_17 q_dcN) (show _ = some ((if q_cc .ne y0 0 = true then 26 else 20), [.ref 0, .int x1, .int x2, .retAddr 0], []) from rfl)).trans ?_
  by_cases c1 : y0 = 0
  · rw [if_neg (show ¬ q_cc .ne y0 0 = true from fun z => (of_decide_eq_true z : ¬ y0 = 0) c1)]
    refine Eq.trans ?_ (if_pos c1).symm
    refine (q_blk (Y := mX11_force) (q_dcC dX11_force_20 (q_dcC dX11_force_21 q_dcN)) (show _ = some (22, [.ref 0, .int x1, .int x2, .retAddr 0], [.int 1, .ref 0]) from rfl)).trans ?_
    exact K_calV (d := d) (Y := mX11_force) (Z := mX11_finding) (vs := [.int 1]) (rest := []) (la := [.ref 0, .int 1]) dX11_force_22 rfl rfl rfl rfl ⟨by decide, rfl⟩ (Nat.le_of_ble_eq_true rfl) rfl (Nat.le_of_ble_eq_true rfl)
  · rw [if_pos (show q_cc .ne y0 0 = true from decide_eq_true c1)]
    refine Eq.trans ?_ (if_neg c1).symm
    refine (q_blk (Y := mX11_force) (q_dcC dX11_force_26 q_dcN) (show _ = some (27, [.ref 0, .int x1, .int x2, .retAddr 0], [.ref 0]) from rfl)).trans ?_
    refine (k_getr (Y := mX11_force) dX11_force_27 rfl rfl ⟨by decide, rfl⟩ (by decide) rfl).trans ?_
    refine (k_getr (Y := mX11_force) dX11_force_30 rfl rfl ⟨by decide, rfl⟩ (by decide) rfl).trans ?_
    refine (q_blk (Y := mX11_force) (q_dcC dX11_force_33 (q_dcC dX11_force_34 q_dcN)) (show _ = some (35, [.ref 0, .int x1, .int x2, .retAddr 0], [.int x2, .int x1, .ref 16]) from rfl)).trans ?_
    exact K_calV (d := d) (Y := mX11_force) (Z := mX5_inForce) (vs := [.int x1, .int x2]) (rest := []) (la := [.ref 16, .int x1, .int x2, .retAddr 0]) dX11_force_35 rfl rfl rfl rfl ⟨by decide, rfl⟩ (Nat.le_of_ble_eq_true rfl) rfl (Nat.le_of_ble_eq_true rfl)
theorem B_X11_force_38 {o : q_H} (d : Nat) (x1 x2 y0 : Int32) (g : Nat → Nat → Int32) : q_sem (d + 1) mX11_force 38 [.ref 0, .int x1, .int x2, .retAddr 0] [.int y0] (q_K o g) = (if 0 ≤ y0 then some (some (.int y0), q_K o g) else (q_sem d mX11_finding 0 [.ref 0, .int 2] [] (q_K o g)).bind (fun r => q_sem (d + 1) mX11_force 48 [.ref 0, .int x1, .int x2, .int y0] (r.1.toList ++ []) r.2)) := by
  refine (q_blk (Y := mX11_force) (q_dcC dX11_force_38 (q_dcC dX11_force_39 (q_dcC dX11_force_40 q_dcN))) (show _ = some ((if q_cc .ge y0 0 = true then 51 else 43), [.ref 0, .int x1, .int x2, .int y0], []) from rfl)).trans ?_
  by_cases c1 : 0 ≤ y0
  · rw [if_pos (show q_cc .ge y0 0 = true from decide_eq_true c1)]
    refine Eq.trans ?_ (if_pos c1).symm
    refine (q_blk (Y := mX11_force) (q_dcC dX11_force_51 q_dcN) (show _ = some (52, [.ref 0, .int x1, .int x2, .int y0], [.int y0]) from rfl)).trans ?_
    exact k_iret (Y := mX11_force) dX11_force_52 rfl
  · rw [if_neg (show ¬ q_cc .ge y0 0 = true from fun z => c1 (of_decide_eq_true z))]
    refine Eq.trans ?_ (if_neg c1).symm
    refine (q_blk (Y := mX11_force) (q_dcC dX11_force_43 (q_dcC dX11_force_44 q_dcN)) (show _ = some (45, [.ref 0, .int x1, .int x2, .int y0], [.int 2, .ref 0]) from rfl)).trans ?_
    exact K_calV (d := d) (Y := mX11_force) (Z := mX11_finding) (vs := [.int 2]) (rest := []) (la := [.ref 0, .int 2]) dX11_force_45 rfl rfl rfl rfl ⟨by decide, rfl⟩ (Nat.le_of_ble_eq_true rfl) rfl (Nat.le_of_ble_eq_true rfl)
theorem B_X11_force_48 {o : q_H} (d : Nat) (x1 x2 x3 y0 : Int32) (g : Nat → Nat → Int32) : q_sem (d) mX11_force 48 [.ref 0, .int x1, .int x2, .int x3] [.int y0] (q_K o g) = some (some (.int y0), q_K o g) := by
  refine (q_blk (Y := mX11_force) (q_dcC dX11_force_48 q_dcN) (show _ = some (52, [.ref 0, .int x1, .int x2, .int x3], [.int y0]) from rfl)).trans ?_
  exact k_iret (Y := mX11_force) dX11_force_52 rfl
theorem B_X11_says_0 {o : q_H} (d : Nat) (x1 x2 x3 x4 x5 : Int32) (g : Nat → Nat → Int32) : q_sem (d + 1) mX11_says 0 [.ref 0, .int x1, .int x2, .int x3, .int x4, .int x5] [] (q_K o g) = (q_sem d mX7_has 0 [.ref 17, .int x1] [] (q_K o g)).bind (fun r => q_sem (d + 1) mX11_says 14 [.ref 0, .int x1, .int x2, .int x3, .int x4, .int x5] (r.1.toList ++ []) r.2) := by
  refine (q_blk (Y := mX11_says) (q_dcC dX11_says_0 q_dcN) (show _ = some (1, [.ref 0, .int x1, .int x2, .int x3, .int x4, .int x5], [.ref 0]) from rfl)).trans ?_
  refine (k_getr (Y := mX11_says) dX11_says_1 rfl rfl ⟨by decide, rfl⟩ (by decide) rfl).trans ?_
  refine (k_getr (Y := mX11_says) dX11_says_4 rfl rfl ⟨by decide, rfl⟩ (by decide) rfl).trans ?_
  refine (k_getr (Y := mX11_says) dX11_says_7 rfl rfl ⟨by decide, rfl⟩ (by decide) rfl).trans ?_
  refine (q_blk (Y := mX11_says) (q_dcC dX11_says_10 q_dcN) (show _ = some (11, [.ref 0, .int x1, .int x2, .int x3, .int x4, .int x5], [.int x1, .ref 17]) from rfl)).trans ?_
  exact K_calV (d := d) (Y := mX11_says) (Z := mX7_has) (vs := [.int x1]) (rest := []) (la := [.ref 17, .int x1]) dX11_says_11 rfl rfl rfl rfl ⟨by decide, rfl⟩ (Nat.le_of_ble_eq_true rfl) rfl (Nat.le_of_ble_eq_true rfl)
theorem B_X11_says_14 {o : q_H} (d : Nat) (x1 x2 x3 x4 x5 y0 : Int32) (g : Nat → Nat → Int32) : q_sem (d + 1) mX11_says 14 [.ref 0, .int x1, .int x2, .int x3, .int x4, .int x5] [.int y0] (q_K o g) = (if y0 = 0 then (q_sem d mX11_finding 0 [.ref 0, .int 1] [] (q_K o g)).bind (fun r => q_sem (d + 1) mX11_says 42 [.ref 0, .int x1, .int x2, .int x3, .int x4, .int x5] (r.1.toList ++ []) r.2) else (q_sem d mX5_worth 0 [.ref 16, .int x1, .int x2, .int x3, .int x4, .int x5, .retAddr 0, .retAddr 0, .retAddr 0] [] (q_K o g)).bind (fun r => q_sem (d + 1) mX11_says 34 [.ref 0, .int x1, .int x2, .int x3, .int x4, .int x5] (r.1.toList ++ []) r.2)) := by
  refine (q_blk (Y := mX11_says) (q_dcC dX11_says_14 q_dcN) (show _ = some ((if q_cc .eq y0 0 = true then 37 else 17), [.ref 0, .int x1, .int x2, .int x3, .int x4, .int x5], []) from rfl)).trans ?_
  by_cases c1 : y0 = 0
  · rw [if_pos (show q_cc .eq y0 0 = true from decide_eq_true c1)]
    refine Eq.trans ?_ (if_pos c1).symm
    refine (q_blk (Y := mX11_says) (q_dcC dX11_says_37 (q_dcC dX11_says_38 q_dcN)) (show _ = some (39, [.ref 0, .int x1, .int x2, .int x3, .int x4, .int x5], [.int 1, .ref 0]) from rfl)).trans ?_
    exact K_calV (d := d) (Y := mX11_says) (Z := mX11_finding) (vs := [.int 1]) (rest := []) (la := [.ref 0, .int 1]) dX11_says_39 rfl rfl rfl rfl ⟨by decide, rfl⟩ (Nat.le_of_ble_eq_true rfl) rfl (Nat.le_of_ble_eq_true rfl)
  · rw [if_neg (show ¬ q_cc .eq y0 0 = true from fun z => c1 (of_decide_eq_true z))]
    refine Eq.trans ?_ (if_neg c1).symm
    refine (q_blk (Y := mX11_says) (q_dcC dX11_says_17 q_dcN) (show _ = some (18, [.ref 0, .int x1, .int x2, .int x3, .int x4, .int x5], [.ref 0]) from rfl)).trans ?_
    refine (k_getr (Y := mX11_says) dX11_says_18 rfl rfl ⟨by decide, rfl⟩ (by decide) rfl).trans ?_
    refine (k_getr (Y := mX11_says) dX11_says_21 rfl rfl ⟨by decide, rfl⟩ (by decide) rfl).trans ?_
    refine (q_blk (Y := mX11_says) (q_dcC dX11_says_24 (q_dcC dX11_says_25 (q_dcC dX11_says_26 (q_dcC dX11_says_27 (q_dcC dX11_says_29 q_dcN))))) (show _ = some (31, [.ref 0, .int x1, .int x2, .int x3, .int x4, .int x5], [.int x5, .int x4, .int x3, .int x2, .int x1, .ref 16]) from rfl)).trans ?_
    exact K_calV (d := d) (Y := mX11_says) (Z := mX5_worth) (vs := [.int x1, .int x2, .int x3, .int x4, .int x5]) (rest := []) (la := [.ref 16, .int x1, .int x2, .int x3, .int x4, .int x5, .retAddr 0, .retAddr 0, .retAddr 0]) dX11_says_31 rfl rfl rfl rfl ⟨by decide, rfl⟩ (Nat.le_of_ble_eq_true rfl) rfl (Nat.le_of_ble_eq_true rfl)
theorem B_X11_says_42 {o : q_H} (d : Nat) (x1 x2 x3 x4 x5 y0 : Int32) (g : Nat → Nat → Int32) : q_sem (d) mX11_says 42 [.ref 0, .int x1, .int x2, .int x3, .int x4, .int x5] [.int y0] (q_K o g) = some (some (.int y0), q_K o g) := by
  exact k_iret (Y := mX11_says) dX11_says_42 rfl
theorem B_X11_says_34 {o : q_H} (d : Nat) (x1 x2 x3 x4 x5 y0 : Int32) (g : Nat → Nat → Int32) : q_sem (d) mX11_says 34 [.ref 0, .int x1, .int x2, .int x3, .int x4, .int x5] [.int y0] (q_K o g) = some (some (.int y0), q_K o g) := by
  refine (q_blk (Y := mX11_says) (q_dcC dX11_says_34 q_dcN) (show _ = some (42, [.ref 0, .int x1, .int x2, .int x3, .int x4, .int x5], [.int y0]) from rfl)).trans ?_
  exact k_iret (Y := mX11_says) dX11_says_42 rfl
theorem B_X11_meeting_0 {o : q_H} (d : Nat) (x1 x2 : Int32) (g : Nat → Nat → Int32) : q_sem (d + 1) mX11_meeting 0 [.ref 0, .int x1, .int x2, .retAddr 0, .retAddr 0] [] (q_K o g) = (q_sem d mX11_notSendable 0 [.ref 0, .int x1, .int x2] [] (q_K o g)).bind (fun r => q_sem (d + 1) mX11_meeting 6 [.ref 0, .int x1, .int x2, .retAddr 0, .retAddr 0] (r.1.toList ++ []) r.2) := by
  refine (q_blk (Y := mX11_meeting) (q_dcC dX11_meeting_0 (q_dcC dX11_meeting_1 (q_dcC dX11_meeting_2 q_dcN))) (show _ = some (3, [.ref 0, .int x1, .int x2, .retAddr 0, .retAddr 0], [.int x2, .int x1, .ref 0]) from rfl)).trans ?_
  exact K_calV (d := d) (Y := mX11_meeting) (Z := mX11_notSendable) (vs := [.int x1, .int x2]) (rest := []) (la := [.ref 0, .int x1, .int x2]) dX11_meeting_3 rfl rfl rfl rfl ⟨by decide, rfl⟩ (Nat.le_of_ble_eq_true rfl) rfl (Nat.le_of_ble_eq_true rfl)
theorem B_X11_meeting_6 {o : q_H} (d : Nat) (x1 x2 y0 : Int32) (g : Nat → Nat → Int32) : q_sem (d + 1) mX11_meeting 6 [.ref 0, .int x1, .int x2, .retAddr 0, .retAddr 0] [.int y0] (q_K o g) = (if y0 = 0 then (q_sem d mX10_minutesToMeet 0 [.ref 1, .int x1, .int x2, .retAddr 0, .retAddr 0, .retAddr 0, .retAddr 0, .retAddr 0, .retAddr 0] [] (q_K o g)).bind (fun r => q_sem (d + 1) mX11_meeting 26 [.ref 0, .int x1, .int x2, .int y0, .retAddr 0] (r.1.toList ++ []) r.2) else (q_sem d mX11_finding 0 [.ref 0, .int y0] [] (q_K o g)).bind (fun r => q_sem (d + 1) mX11_meeting 16 [.ref 0, .int x1, .int x2, .int y0, .retAddr 0] (r.1.toList ++ []) r.2)) := by
  refine (q_blk (Y := mX11_meeting) (q_dcC dX11_meeting_6 (q_dcC dX11_meeting_7 (q_dcC dX11_meeting_8 q_dcN))) (show _ = some ((if q_cc .eq y0 0 = true then 17 else 11), [.ref 0, .int x1, .int x2, .int y0, .retAddr 0], []) from rfl)).trans ?_
  by_cases c1 : y0 = 0
  · rw [if_pos (show q_cc .eq y0 0 = true from decide_eq_true c1)]
    refine Eq.trans ?_ (if_pos c1).symm
    refine (q_blk (Y := mX11_meeting) (q_dcC dX11_meeting_17 q_dcN) (show _ = some (18, [.ref 0, .int x1, .int x2, .int y0, .retAddr 0], [.ref 0]) from rfl)).trans ?_
    refine (k_getr (Y := mX11_meeting) dX11_meeting_18 rfl rfl ⟨by decide, rfl⟩ (by decide) rfl).trans ?_
    refine (q_blk (Y := mX11_meeting) (q_dcC dX11_meeting_21 (q_dcC dX11_meeting_22 q_dcN)) (show _ = some (23, [.ref 0, .int x1, .int x2, .int y0, .retAddr 0], [.int x2, .int x1, .ref 1]) from rfl)).trans ?_
    exact K_calV (d := d) (Y := mX11_meeting) (Z := mX10_minutesToMeet) (vs := [.int x1, .int x2]) (rest := []) (la := [.ref 1, .int x1, .int x2, .retAddr 0, .retAddr 0, .retAddr 0, .retAddr 0, .retAddr 0, .retAddr 0]) dX11_meeting_23 rfl rfl rfl rfl ⟨by decide, rfl⟩ (Nat.le_of_ble_eq_true rfl) rfl (Nat.le_of_ble_eq_true rfl)
  · rw [if_neg (show ¬ q_cc .eq y0 0 = true from fun z => c1 (of_decide_eq_true z))]
    refine Eq.trans ?_ (if_neg c1).symm
    refine (q_blk (Y := mX11_meeting) (q_dcC dX11_meeting_11 (q_dcC dX11_meeting_12 q_dcN)) (show _ = some (13, [.ref 0, .int x1, .int x2, .int y0, .retAddr 0], [.int y0, .ref 0]) from rfl)).trans ?_
    exact K_calV (d := d) (Y := mX11_meeting) (Z := mX11_finding) (vs := [.int y0]) (rest := []) (la := [.ref 0, .int y0]) dX11_meeting_13 rfl rfl rfl rfl ⟨by decide, rfl⟩ (Nat.le_of_ble_eq_true rfl) rfl (Nat.le_of_ble_eq_true rfl)
theorem B_X11_meeting_26 {o : q_H} (d : Nat) (x1 x2 x3 y0 : Int32) (g : Nat → Nat → Int32) : q_sem (d + 1) mX11_meeting 26 [.ref 0, .int x1, .int x2, .int x3, .retAddr 0] [.int y0] (q_K o g) = (if 0 ≤ y0 then some (some (.int ((g 1 8) + y0)), q_K o g) else (q_sem d mX11_finding 0 [.ref 0, .int 2] [] (q_K o g)).bind (fun r => q_sem (d + 1) mX11_meeting 38 [.ref 0, .int x1, .int x2, .int x3, .int y0] (r.1.toList ++ []) r.2)) := by
  refine (q_blk (Y := mX11_meeting) (q_dcC dX11_meeting_26 (q_dcC dX11_meeting_28 (q_dcC dX11_meeting_30 q_dcN))) (show _ = some ((if q_cc .ge y0 0 = true then 41 else 33), [.ref 0, .int x1, .int x2, .int x3, .int y0], []) from rfl)).trans ?_
  by_cases c1 : 0 ≤ y0
  · rw [if_pos (show q_cc .ge y0 0 = true from decide_eq_true c1)]
    refine Eq.trans ?_ (if_pos c1).symm
    refine (q_blk (Y := mX11_meeting) (q_dcC dX11_meeting_41 q_dcN) (show _ = some (42, [.ref 0, .int x1, .int x2, .int x3, .int y0], [.ref 0]) from rfl)).trans ?_
    refine (k_getr (Y := mX11_meeting) dX11_meeting_42 rfl rfl ⟨by decide, rfl⟩ (by decide) rfl).trans ?_
    refine (k_geti (Y := mX11_meeting) dX11_meeting_45 rfl rfl ⟨by decide, rfl⟩ (by decide) rfl).trans ?_
    refine (q_blk (Y := mX11_meeting) (q_dcC dX11_meeting_48 (q_dcC dX11_meeting_50 q_dcN)) (show _ = some (51, [.ref 0, .int x1, .int x2, .int x3, .int y0], [.int ((g 1 8) + y0)]) from rfl)).trans ?_
    exact k_iret (Y := mX11_meeting) dX11_meeting_51 rfl
  · rw [if_neg (show ¬ q_cc .ge y0 0 = true from fun z => c1 (of_decide_eq_true z))]
    refine Eq.trans ?_ (if_neg c1).symm
    refine (q_blk (Y := mX11_meeting) (q_dcC dX11_meeting_33 (q_dcC dX11_meeting_34 q_dcN)) (show _ = some (35, [.ref 0, .int x1, .int x2, .int x3, .int y0], [.int 2, .ref 0]) from rfl)).trans ?_
    exact K_calV (d := d) (Y := mX11_meeting) (Z := mX11_finding) (vs := [.int 2]) (rest := []) (la := [.ref 0, .int 2]) dX11_meeting_35 rfl rfl rfl rfl ⟨by decide, rfl⟩ (Nat.le_of_ble_eq_true rfl) rfl (Nat.le_of_ble_eq_true rfl)
theorem B_X11_meeting_16 {o : q_H} (d : Nat) (x1 x2 x3 y0 : Int32) (g : Nat → Nat → Int32) : q_sem (d) mX11_meeting 16 [.ref 0, .int x1, .int x2, .int x3, .retAddr 0] [.int y0] (q_K o g) = some (some (.int y0), q_K o g) := by
  exact k_iret (Y := mX11_meeting) dX11_meeting_16 rfl
theorem B_X11_meeting_38 {o : q_H} (d : Nat) (x1 x2 x3 x4 y0 : Int32) (g : Nat → Nat → Int32) : q_sem (d) mX11_meeting 38 [.ref 0, .int x1, .int x2, .int x3, .int x4] [.int y0] (q_K o g) = some (some (.int y0), q_K o g) := by
  refine (q_blk (Y := mX11_meeting) (q_dcC dX11_meeting_38 q_dcN) (show _ = some (51, [.ref 0, .int x1, .int x2, .int x3, .int x4], [.int y0]) from rfl)).trans ?_
  exact k_iret (Y := mX11_meeting) dX11_meeting_51 rfl
theorem B_X11_sending_0 {o : q_H} (d : Nat) (x1 x2 : Int32) (g : Nat → Nat → Int32) : q_sem (d + 1) mX11_sending 0 [.ref 0, .int x1, .int x2] [] (q_K o g) = (q_sem d mX11_within 0 [.int x1, .int 1, .int 60] [] (q_K o g)).bind (fun r => q_sem (d + 1) mX11_sending 7 [.ref 0, .int x1, .int x2] (r.1.toList ++ []) r.2) := by
  refine (q_blk (Y := mX11_sending) (q_dcC dX11_sending_0 (q_dcC dX11_sending_1 (q_dcC dX11_sending_2 q_dcN))) (show _ = some (4, [.ref 0, .int x1, .int x2], [.int 60, .int 1, .int x1]) from rfl)).trans ?_
  exact K_calS (d := d) (Y := mX11_sending) (Z := mX11_within) (vs := [.int x1, .int 1, .int 60]) (rest := []) (la := [.int x1, .int 1, .int 60]) dX11_sending_4 rfl rfl rfl rfl (Nat.le_of_ble_eq_true rfl) rfl (Nat.le_of_ble_eq_true rfl)
theorem B_X11_sending_7 {o : q_H} (d : Nat) (x1 x2 y0 : Int32) (g : Nat → Nat → Int32) : q_sem (d + 1) mX11_sending 7 [.ref 0, .int x1, .int x2] [.int y0] (q_K o g) = (if y0 = 0 then (q_sem d mX11_finding 0 [.ref 0, .int 1] [] (q_K o g)).bind (fun r => q_sem (d + 1) mX11_sending 25 [.ref 0, .int x1, .int x2] (r.1.toList ++ []) r.2) else (q_sem d mX11_within 0 [.int x2, .int (-2), .int 5] [] (q_K o g)).bind (fun r => q_sem (d + 1) mX11_sending 17 [.ref 0, .int x1, .int x2] (r.1.toList ++ []) r.2)) := by
  refine (q_blk (Y := mX11_sending) (q_dcC dX11_sending_7 q_dcN) (show _ = some ((if q_cc .eq y0 0 = true then 20 else 10), [.ref 0, .int x1, .int x2], []) from rfl)).trans ?_
  by_cases c1 : y0 = 0
  · rw [if_pos (show q_cc .eq y0 0 = true from decide_eq_true c1)]
    refine Eq.trans ?_ (if_pos c1).symm
    refine (q_blk (Y := mX11_sending) (q_dcC dX11_sending_20 (q_dcC dX11_sending_21 q_dcN)) (show _ = some (22, [.ref 0, .int x1, .int x2], [.int 1, .ref 0]) from rfl)).trans ?_
    exact K_calV (d := d) (Y := mX11_sending) (Z := mX11_finding) (vs := [.int 1]) (rest := []) (la := [.ref 0, .int 1]) dX11_sending_22 rfl rfl rfl rfl ⟨by decide, rfl⟩ (Nat.le_of_ble_eq_true rfl) rfl (Nat.le_of_ble_eq_true rfl)
  · rw [if_neg (show ¬ q_cc .eq y0 0 = true from fun z => c1 (of_decide_eq_true z))]
    refine Eq.trans ?_ (if_neg c1).symm
    refine (q_blk (Y := mX11_sending) (q_dcC dX11_sending_10 (q_dcC dX11_sending_11 (q_dcC dX11_sending_13 q_dcN))) (show _ = some (14, [.ref 0, .int x1, .int x2], [.int 5, .int (-2), .int x2]) from rfl)).trans ?_
    exact K_calS (d := d) (Y := mX11_sending) (Z := mX11_within) (vs := [.int x2, .int (-2), .int 5]) (rest := []) (la := [.int x2, .int (-2), .int 5]) dX11_sending_14 rfl rfl rfl rfl (Nat.le_of_ble_eq_true rfl) rfl (Nat.le_of_ble_eq_true rfl)
theorem B_X11_sending_25 {o : q_H} (d : Nat) (x1 x2 y0 : Int32) (g : Nat → Nat → Int32) : q_sem (d) mX11_sending 25 [.ref 0, .int x1, .int x2] [.int y0] (q_K o g) = some (some (.int y0), q_K o g) := by
  exact k_iret (Y := mX11_sending) dX11_sending_25 rfl
theorem B_X11_sending_17 {o : q_H} (d : Nat) (x1 x2 y0 : Int32) (g : Nat → Nat → Int32) : q_sem (d + 1) mX11_sending 17 [.ref 0, .int x1, .int x2] [.int y0] (q_K o g) = (if y0 = 0 then (q_sem d mX11_finding 0 [.ref 0, .int 1] [] (q_K o g)).bind (fun r => q_sem (d + 1) mX11_sending 25 [.ref 0, .int x1, .int x2] (r.1.toList ++ []) r.2) else (q_sem d mX1_begin 0 [.ref 72, .retAddr 0, .retAddr 0] [] (q_K o g)).bind (fun r => q_sem (d + 1) mX11_sending 33 [.ref 0, .int x1, .int x2] (r.1.toList ++ []) r.2)) := by
  refine (q_blk (Y := mX11_sending) (q_dcC dX11_sending_17 q_dcN) (show _ = some ((if q_cc .ne y0 0 = true then 26 else 20), [.ref 0, .int x1, .int x2], []) from rfl)).trans ?_
  by_cases c1 : y0 = 0
  · rw [if_neg (show ¬ q_cc .ne y0 0 = true from fun z => (of_decide_eq_true z : ¬ y0 = 0) c1)]
    refine Eq.trans ?_ (if_pos c1).symm
    refine (q_blk (Y := mX11_sending) (q_dcC dX11_sending_20 (q_dcC dX11_sending_21 q_dcN)) (show _ = some (22, [.ref 0, .int x1, .int x2], [.int 1, .ref 0]) from rfl)).trans ?_
    exact K_calV (d := d) (Y := mX11_sending) (Z := mX11_finding) (vs := [.int 1]) (rest := []) (la := [.ref 0, .int 1]) dX11_sending_22 rfl rfl rfl rfl ⟨by decide, rfl⟩ (Nat.le_of_ble_eq_true rfl) rfl (Nat.le_of_ble_eq_true rfl)
  · rw [if_pos (show q_cc .ne y0 0 = true from decide_eq_true c1)]
    refine Eq.trans ?_ (if_neg c1).symm
    refine (q_blk (Y := mX11_sending) (q_dcC dX11_sending_26 q_dcN) (show _ = some (27, [.ref 0, .int x1, .int x2], [.ref 0]) from rfl)).trans ?_
    refine (k_getr (Y := mX11_sending) dX11_sending_27 rfl rfl ⟨by decide, rfl⟩ (by decide) rfl).trans ?_
    exact K_calV (d := d) (Y := mX11_sending) (Z := mX1_begin) (vs := []) (rest := []) (la := [.ref 72, .retAddr 0, .retAddr 0]) dX11_sending_30 rfl rfl rfl rfl ⟨by decide, rfl⟩ (Nat.le_of_ble_eq_true rfl) rfl (Nat.le_of_ble_eq_true rfl)
theorem B_X11_sending_33 {o : q_H} (d : Nat) (x1 x2 : Int32) (g : Nat → Nat → Int32) : q_sem (d + 1) mX11_sending 33 [.ref 0, .int x1, .int x2] [] (q_K o g) = (q_sem d mX11_listLeast 0 [.ref 0, .ref 73, .int 1, .int 0, .retAddr 0] [] (q_K o g)).bind (fun r => q_sem (d + 1) mX11_sending 46 [.ref 0, .int x1, .int x2] (r.1.toList ++ []) r.2) := by
  refine (q_blk (Y := mX11_sending) (q_dcC dX11_sending_33 (q_dcC dX11_sending_34 q_dcN)) (show _ = some (35, [.ref 0, .int x1, .int x2], [.ref 0, .ref 0]) from rfl)).trans ?_
  refine (k_getr (Y := mX11_sending) dX11_sending_35 rfl rfl ⟨by decide, rfl⟩ (by decide) rfl).trans ?_
  refine (k_getr (Y := mX11_sending) dX11_sending_38 rfl rfl ⟨by decide, rfl⟩ (by decide) rfl).trans ?_
  refine (q_blk (Y := mX11_sending) (q_dcC dX11_sending_41 (q_dcC dX11_sending_42 q_dcN)) (show _ = some (43, [.ref 0, .int x1, .int x2], [.int 0, .int 1, .ref 73, .ref 0]) from rfl)).trans ?_
  exact K_calV (d := d) (Y := mX11_sending) (Z := mX11_listLeast) (vs := [.ref 73, .int 1, .int 0]) (rest := []) (la := [.ref 0, .ref 73, .int 1, .int 0, .retAddr 0]) dX11_sending_43 rfl rfl rfl rfl ⟨by decide, rfl⟩ (Nat.le_of_ble_eq_true rfl) rfl (Nat.le_of_ble_eq_true rfl)
theorem B_X11_sending_46 {o : q_H} (d : Nat) (x1 x2 : Int32) (g : Nat → Nat → Int32) : q_sem (d + 1) mX11_sending 46 [.ref 0, .int x1, .int x2] [] (q_K o g) = (q_sem d mX11_listLeast 0 [.ref 0, .ref 75, .int 4, .int 1, .retAddr 0] [] (q_K o g)).bind (fun r => q_sem (d + 1) mX11_sending 59 [.ref 0, .int x1, .int x2] (r.1.toList ++ []) r.2) := by
  refine (q_blk (Y := mX11_sending) (q_dcC dX11_sending_46 (q_dcC dX11_sending_47 q_dcN)) (show _ = some (48, [.ref 0, .int x1, .int x2], [.ref 0, .ref 0]) from rfl)).trans ?_
  refine (k_getr (Y := mX11_sending) dX11_sending_48 rfl rfl ⟨by decide, rfl⟩ (by decide) rfl).trans ?_
  refine (k_getr (Y := mX11_sending) dX11_sending_51 rfl rfl ⟨by decide, rfl⟩ (by decide) rfl).trans ?_
  refine (q_blk (Y := mX11_sending) (q_dcC dX11_sending_54 (q_dcC dX11_sending_55 q_dcN)) (show _ = some (56, [.ref 0, .int x1, .int x2], [.int 1, .int 4, .ref 75, .ref 0]) from rfl)).trans ?_
  exact K_calV (d := d) (Y := mX11_sending) (Z := mX11_listLeast) (vs := [.ref 75, .int 4, .int 1]) (rest := []) (la := [.ref 0, .ref 75, .int 4, .int 1, .retAddr 0]) dX11_sending_56 rfl rfl rfl rfl ⟨by decide, rfl⟩ (Nat.le_of_ble_eq_true rfl) rfl (Nat.le_of_ble_eq_true rfl)
theorem B_X11_sending_59 {o : q_H} (d : Nat) (x1 x2 : Int32) (g : Nat → Nat → Int32) : q_sem (d + 1) mX11_sending 59 [.ref 0, .int x1, .int x2] [] (q_K o g) = (q_sem d mX7_size 0 [.ref 73] [] (q_K o g)).bind (fun r => q_sem (d + 1) mX11_sending 70 [.ref 0, .int x1, .int x2] (r.1.toList ++ [.int x2]) r.2) := by
  refine (q_blk (Y := mX11_sending) (q_dcC dX11_sending_59 (q_dcC dX11_sending_60 q_dcN)) (show _ = some (61, [.ref 0, .int x1, .int x2], [.ref 0, .int x2]) from rfl)).trans ?_
  refine (k_getr (Y := mX11_sending) dX11_sending_61 rfl rfl ⟨by decide, rfl⟩ (by decide) rfl).trans ?_
  refine (k_getr (Y := mX11_sending) dX11_sending_64 rfl rfl ⟨by decide, rfl⟩ (by decide) rfl).trans ?_
  exact K_calV (d := d) (Y := mX11_sending) (Z := mX7_size) (vs := []) (rest := [.int x2]) (la := [.ref 73]) dX11_sending_67 rfl rfl rfl rfl ⟨by decide, rfl⟩ (Nat.le_of_ble_eq_true rfl) rfl (Nat.le_of_ble_eq_true rfl)
theorem B_X11_sending_70 {o : q_H} (d : Nat) (x1 x2 y0 y1 : Int32) (g : Nat → Nat → Int32) : q_sem (d + 1) mX11_sending 70 [.ref 0, .int x1, .int x2] [.int y0, .int y1] (q_K o g) = (if y1 < y0 then (q_sem d mX11_matchRaids 0 [.ref 0, .int x1, .retAddr 0, .retAddr 0, .retAddr 0] [] (q_K o g)).bind (fun r => q_sem (d + 1) mX11_sending 84 [.ref 0, .int x1, .int x2] (r.1.toList ++ []) r.2) else (q_sem d mX11_finding 0 [.ref 0, .int 2] [] (q_K o g)).bind (fun r => q_sem (d + 1) mX11_sending 78 [.ref 0, .int x1, .int x2] (r.1.toList ++ []) r.2)) := by
  refine (q_blk (Y := mX11_sending) (q_dcC dX11_sending_70 q_dcN) (show _ = some ((if q_cc .lt y1 y0 = true then 79 else 73), [.ref 0, .int x1, .int x2], []) from rfl)).trans ?_
  by_cases c1 : y1 < y0
  · rw [if_pos (show q_cc .lt y1 y0 = true from decide_eq_true c1)]
    refine Eq.trans ?_ (if_pos c1).symm
    refine (q_blk (Y := mX11_sending) (q_dcC dX11_sending_79 (q_dcC dX11_sending_80 q_dcN)) (show _ = some (81, [.ref 0, .int x1, .int x2], [.int x1, .ref 0]) from rfl)).trans ?_
    exact K_calV (d := d) (Y := mX11_sending) (Z := mX11_matchRaids) (vs := [.int x1]) (rest := []) (la := [.ref 0, .int x1, .retAddr 0, .retAddr 0, .retAddr 0]) dX11_sending_81 rfl rfl rfl rfl ⟨by decide, rfl⟩ (Nat.le_of_ble_eq_true rfl) rfl (Nat.le_of_ble_eq_true rfl)
  · rw [if_neg (show ¬ q_cc .lt y1 y0 = true from fun z => c1 (of_decide_eq_true z))]
    refine Eq.trans ?_ (if_neg c1).symm
    refine (q_blk (Y := mX11_sending) (q_dcC dX11_sending_73 (q_dcC dX11_sending_74 q_dcN)) (show _ = some (75, [.ref 0, .int x1, .int x2], [.int 2, .ref 0]) from rfl)).trans ?_
    exact K_calV (d := d) (Y := mX11_sending) (Z := mX11_finding) (vs := [.int 2]) (rest := []) (la := [.ref 0, .int 2]) dX11_sending_75 rfl rfl rfl rfl ⟨by decide, rfl⟩ (Nat.le_of_ble_eq_true rfl) rfl (Nat.le_of_ble_eq_true rfl)
theorem B_X11_sending_84 {o : q_H} (d : Nat) (x1 x2 : Int32) (g : Nat → Nat → Int32) : q_sem (d + 1) mX11_sending 84 [.ref 0, .int x1, .int x2] [] (q_K o g) = (q_sem d mX10_howMany 0 [.ref 1, .int 4, .int 1, .retAddr 0, .retAddr 0] [] (q_K o g)).bind (fun r => q_sem (d + 1) mX11_sending 97 [.ref 0, .int x1, .int x2] (r.1.toList ++ [.ref 72]) r.2) := by
  refine (q_blk (Y := mX11_sending) (q_dcC dX11_sending_84 q_dcN) (show _ = some (85, [.ref 0, .int x1, .int x2], [.ref 0]) from rfl)).trans ?_
  refine (k_getr (Y := mX11_sending) dX11_sending_85 rfl rfl ⟨by decide, rfl⟩ (by decide) rfl).trans ?_
  refine (q_blk (Y := mX11_sending) (q_dcC dX11_sending_88 q_dcN) (show _ = some (89, [.ref 0, .int x1, .int x2], [.ref 0, .ref 72]) from rfl)).trans ?_
  refine (k_getr (Y := mX11_sending) dX11_sending_89 rfl rfl ⟨by decide, rfl⟩ (by decide) rfl).trans ?_
  refine (q_blk (Y := mX11_sending) (q_dcC dX11_sending_92 (q_dcC dX11_sending_93 q_dcN)) (show _ = some (94, [.ref 0, .int x1, .int x2], [.int 1, .int 4, .ref 1, .ref 72]) from rfl)).trans ?_
  exact K_calV (d := d) (Y := mX11_sending) (Z := mX10_howMany) (vs := [.int 4, .int 1]) (rest := [.ref 72]) (la := [.ref 1, .int 4, .int 1, .retAddr 0, .retAddr 0]) dX11_sending_94 rfl rfl rfl rfl ⟨by decide, rfl⟩ (Nat.le_of_ble_eq_true rfl) rfl (Nat.le_of_ble_eq_true rfl)
theorem B_X11_sending_78 {o : q_H} (d : Nat) (x1 x2 y0 : Int32) (g : Nat → Nat → Int32) : q_sem (d) mX11_sending 78 [.ref 0, .int x1, .int x2] [.int y0] (q_K o g) = some (some (.int y0), q_K o g) := by
  exact k_iret (Y := mX11_sending) dX11_sending_78 rfl
theorem B_X11_sending_97 {o : q_H} (d : Nat) (x1 x2 y0 : Int32) (g : Nat → Nat → Int32) : q_sem (d + 1) mX11_sending 97 [.ref 0, .int x1, .int x2] [.int y0, .ref 72] (q_K o g) = (q_sem d mX10_keptDown 0 [.ref 1, .retAddr 0, .retAddr 0] [] (q_K o g)).bind (fun r => q_sem (d + 1) mX11_sending 104 [.ref 0, .int x1, .int x2] (r.1.toList ++ [.int y0, .ref 72]) r.2) := by
  refine (q_blk (Y := mX11_sending) (q_dcC dX11_sending_97 q_dcN) (show _ = some (98, [.ref 0, .int x1, .int x2], [.ref 0, .int y0, .ref 72]) from rfl)).trans ?_
  refine (k_getr (Y := mX11_sending) dX11_sending_98 rfl rfl ⟨by decide, rfl⟩ (by decide) rfl).trans ?_
  exact K_calV (d := d) (Y := mX11_sending) (Z := mX10_keptDown) (vs := []) (rest := [.int y0, .ref 72]) (la := [.ref 1, .retAddr 0, .retAddr 0]) dX11_sending_101 rfl rfl rfl rfl ⟨by decide, rfl⟩ (Nat.le_of_ble_eq_true rfl) rfl (Nat.le_of_ble_eq_true rfl)
theorem B_X11_sending_104 {o : q_H} (d : Nat) (x1 x2 y0 y1 : Int32) (g : Nat → Nat → Int32) : q_sem (d + 1) mX11_sending 104 [.ref 0, .int x1, .int x2] [.int y0, .int y1, .ref 72] (q_K o g) = (q_sem d mX1_solve 0 [.ref 72, .int (y1 - y0), .retAddr 0, .retAddr 0, .retAddr 0] [] (q_K o g)).bind (fun r => q_sem (d + 1) mX11_sending 108 [.ref 0, .int x1, .int x2] (r.1.toList ++ []) r.2) := by
  refine (q_blk (Y := mX11_sending) (q_dcC dX11_sending_104 q_dcN) (show _ = some (105, [.ref 0, .int x1, .int x2], [.int (y1 - y0), .ref 72]) from rfl)).trans ?_
  exact K_calV (d := d) (Y := mX11_sending) (Z := mX1_solve) (vs := [.int (y1 - y0)]) (rest := []) (la := [.ref 72, .int (y1 - y0), .retAddr 0, .retAddr 0, .retAddr 0]) dX11_sending_105 rfl rfl rfl rfl ⟨by decide, rfl⟩ (Nat.le_of_ble_eq_true rfl) rfl (Nat.le_of_ble_eq_true rfl)
theorem B_X11_sending_108 {o : q_H} (d : Nat) (x1 x2 : Int32) (g : Nat → Nat → Int32) : q_sem (d + 1) mX11_sending 108 [.ref 0, .int x1, .int x2] [] (q_K o g) = (if 0 ≤ x2 then (q_sem d mX1_partner 0 [.ref 72, .int x2, .retAddr 0] [] (q_K o g)).bind (fun r => q_sem (d + 1) mX11_sending 143 [.ref 0, .int x1, .int x2] (r.1.toList ++ []) r.2) else (if x2 = (-1) then (q_sem d mX1_pairs 0 [.ref 72] [] (q_K o g)).bind (fun r => q_sem (d + 1) mX11_sending 124 [.ref 0, .int x1, .int x2] (r.1.toList ++ []) r.2) else (q_sem d mX1_sum 0 [.ref 72] [] (q_K o g)).bind (fun r => q_sem (d + 1) mX11_sending 134 [.ref 0, .int x1, .int x2] (r.1.toList ++ []) r.2))) := by
  refine (q_blk (Y := mX11_sending) (q_dcC dX11_sending_108 (q_dcC dX11_sending_109 q_dcN)) (show _ = some ((if q_cc .ge x2 0 = true then 135 else 112), [.ref 0, .int x1, .int x2], []) from rfl)).trans ?_
  by_cases c1 : 0 ≤ x2
  · rw [if_pos (show q_cc .ge x2 0 = true from decide_eq_true c1)]
    refine Eq.trans ?_ (if_pos c1).symm
    refine (q_blk (Y := mX11_sending) (q_dcC dX11_sending_135 q_dcN) (show _ = some (136, [.ref 0, .int x1, .int x2], [.ref 0]) from rfl)).trans ?_
    refine (k_getr (Y := mX11_sending) dX11_sending_136 rfl rfl ⟨by decide, rfl⟩ (by decide) rfl).trans ?_
    refine (q_blk (Y := mX11_sending) (q_dcC dX11_sending_139 q_dcN) (show _ = some (140, [.ref 0, .int x1, .int x2], [.int x2, .ref 72]) from rfl)).trans ?_
    exact K_calV (d := d) (Y := mX11_sending) (Z := mX1_partner) (vs := [.int x2]) (rest := []) (la := [.ref 72, .int x2, .retAddr 0]) dX11_sending_140 rfl rfl rfl rfl ⟨by decide, rfl⟩ (Nat.le_of_ble_eq_true rfl) rfl (Nat.le_of_ble_eq_true rfl)
  · rw [if_neg (show ¬ q_cc .ge x2 0 = true from fun z => c1 (of_decide_eq_true z))]
    refine Eq.trans ?_ (if_neg c1).symm
    refine (q_blk (Y := mX11_sending) (q_dcC dX11_sending_112 (q_dcC dX11_sending_113 (q_dcC dX11_sending_114 q_dcN))) (show _ = some ((if q_cc .ne x2 (-1) = true then 127 else 117), [.ref 0, .int x1, .int x2], []) from rfl)).trans ?_
    by_cases c2 : x2 = (-1)
    · rw [if_neg (show ¬ q_cc .ne x2 (-1) = true from fun z => (of_decide_eq_true z : ¬ x2 = (-1)) c2)]
      refine Eq.trans ?_ (if_pos c2).symm
      refine (q_blk (Y := mX11_sending) (q_dcC dX11_sending_117 q_dcN) (show _ = some (118, [.ref 0, .int x1, .int x2], [.ref 0]) from rfl)).trans ?_
      refine (k_getr (Y := mX11_sending) dX11_sending_118 rfl rfl ⟨by decide, rfl⟩ (by decide) rfl).trans ?_
      exact K_calV (d := d) (Y := mX11_sending) (Z := mX1_pairs) (vs := []) (rest := []) (la := [.ref 72]) dX11_sending_121 rfl rfl rfl rfl ⟨by decide, rfl⟩ (Nat.le_of_ble_eq_true rfl) rfl (Nat.le_of_ble_eq_true rfl)
    · rw [if_pos (show q_cc .ne x2 (-1) = true from decide_eq_true c2)]
      refine Eq.trans ?_ (if_neg c2).symm
      refine (q_blk (Y := mX11_sending) (q_dcC dX11_sending_127 q_dcN) (show _ = some (128, [.ref 0, .int x1, .int x2], [.ref 0]) from rfl)).trans ?_
      refine (k_getr (Y := mX11_sending) dX11_sending_128 rfl rfl ⟨by decide, rfl⟩ (by decide) rfl).trans ?_
      exact K_calV (d := d) (Y := mX11_sending) (Z := mX1_sum) (vs := []) (rest := []) (la := [.ref 72]) dX11_sending_131 rfl rfl rfl rfl ⟨by decide, rfl⟩ (Nat.le_of_ble_eq_true rfl) rfl (Nat.le_of_ble_eq_true rfl)
theorem B_X11_sending_143 {o : q_H} (d : Nat) (x1 x2 y0 : Int32) (g : Nat → Nat → Int32) : q_sem (d) mX11_sending 143 [.ref 0, .int x1, .int x2] [.int y0] (q_K o g) = some (some (.int y0), q_K o g) := by
  exact k_iret (Y := mX11_sending) dX11_sending_143 rfl
theorem B_X11_sending_124 {o : q_H} (d : Nat) (x1 x2 y0 : Int32) (g : Nat → Nat → Int32) : q_sem (d) mX11_sending 124 [.ref 0, .int x1, .int x2] [.int y0] (q_K o g) = some (some (.int y0), q_K o g) := by
  refine (q_blk (Y := mX11_sending) (q_dcC dX11_sending_124 q_dcN) (show _ = some (134, [.ref 0, .int x1, .int x2], [.int y0]) from rfl)).trans ?_
  exact k_iret (Y := mX11_sending) dX11_sending_134 rfl
theorem B_X11_sending_134 {o : q_H} (d : Nat) (x1 x2 y0 : Int32) (g : Nat → Nat → Int32) : q_sem (d) mX11_sending 134 [.ref 0, .int x1, .int x2] [.int y0] (q_K o g) = some (some (.int y0), q_K o g) := by
  exact k_iret (Y := mX11_sending) dX11_sending_134 rfl
theorem B_X11_listLeast_0 {o : q_H} {t : Nat} (ht : q_is t 5) (d : Nat) (x2 x3 : Int32) (g : Nat → Nat → Int32) : q_sem (d) mX11_listLeast 0 [.ref 0, .ref t, .int x2, .int x3, .retAddr 0] [] (q_K o g) = q_sem (d) mX11_listLeast 3 [.ref 0, .ref t, .int x2, .int x3, .int 0] [] (q_K o g) := by
  refine (q_blk (Y := mX11_listLeast) (q_dcC dX11_listLeast_0 (q_dcC dX11_listLeast_1 q_dcN)) (show _ = some (3, [.ref 0, .ref t, .int x2, .int x3, .int 0], []) from rfl)).trans ?_
  rfl
theorem B_X11_listLeast_3 {o : q_H} {t : Nat} (ht : q_is t 5) (d : Nat) (x2 x3 x4 : Int32) (g : Nat → Nat → Int32) : q_sem (d + 1) mX11_listLeast 3 [.ref 0, .ref t, .int x2, .int x3, .int x4] [] (q_K o g) = (q_sem d mX7_size 0 [.ref 12] [] (q_K o g)).bind (fun r => q_sem (d + 1) mX11_listLeast 15 [.ref 0, .ref t, .int x2, .int x3, .int x4] (r.1.toList ++ [.int x4]) r.2) := by
  refine (q_blk (Y := mX11_listLeast) (q_dcC dX11_listLeast_3 (q_dcC dX11_listLeast_5 q_dcN)) (show _ = some (6, [.ref 0, .ref t, .int x2, .int x3, .int x4], [.ref 0, .int x4]) from rfl)).trans ?_
  refine (k_getr (Y := mX11_listLeast) dX11_listLeast_6 rfl rfl ⟨by decide, rfl⟩ (by decide) rfl).trans ?_
  refine (k_getr (Y := mX11_listLeast) dX11_listLeast_9 rfl rfl ⟨by decide, rfl⟩ (by decide) rfl).trans ?_
  exact K_calV (d := d) (Y := mX11_listLeast) (Z := mX7_size) (vs := []) (rest := [.int x4]) (la := [.ref 12]) dX11_listLeast_12 rfl rfl rfl rfl ⟨by decide, rfl⟩ (Nat.le_of_ble_eq_true rfl) rfl (Nat.le_of_ble_eq_true rfl)
theorem B_X11_listLeast_15 {o : q_H} {t : Nat} (ht : q_is t 5) (d : Nat) (x2 x3 x4 y0 y1 : Int32) (g : Nat → Nat → Int32) : q_sem (d + 1) mX11_listLeast 15 [.ref 0, .ref t, .int x2, .int x3, .int x4] [.int y0, .int y1] (q_K o g) = (if y0 ≤ y1 then some (none, q_K o g) else (q_sem d mX7_size 0 [.ref t] [] (q_K o g)).bind (fun r => q_sem (d + 1) mX11_listLeast 22 [.ref 0, .ref t, .int x2, .int x3, .int x4] (r.1.toList ++ []) r.2)) := by
  refine (q_blk (Y := mX11_listLeast) (q_dcC dX11_listLeast_15 q_dcN) (show _ = some ((if q_cc .ge y1 y0 = true then 66 else 18), [.ref 0, .ref t, .int x2, .int x3, .int x4], []) from rfl)).trans ?_
  by_cases c1 : y0 ≤ y1
  · rw [if_pos (show q_cc .ge y1 y0 = true from decide_eq_true c1)]
    refine Eq.trans ?_ (if_pos c1).symm
    exact k_vret (Y := mX11_listLeast) dX11_listLeast_66 rfl
  · rw [if_neg (show ¬ q_cc .ge y1 y0 = true from fun z => c1 (of_decide_eq_true z))]
    refine Eq.trans ?_ (if_neg c1).symm
    refine (q_blk (Y := mX11_listLeast) (q_dcC dX11_listLeast_18 q_dcN) (show _ = some (19, [.ref 0, .ref t, .int x2, .int x3, .int x4], [.ref t]) from rfl)).trans ?_
    exact K_calV (d := d) (Y := mX11_listLeast) (Z := mX7_size) (vs := []) (rest := []) (la := [.ref t]) dX11_listLeast_19 rfl rfl rfl rfl ht (Nat.le_of_ble_eq_true rfl) rfl (Nat.le_of_ble_eq_true rfl)
theorem B_X11_listLeast_22 {o : q_H} {t : Nat} (ht : q_is t 5) (d : Nat) (x2 x3 x4 y0 : Int32) (g : Nat → Nat → Int32) : q_sem (d + 1) mX11_listLeast 22 [.ref 0, .ref t, .int x2, .int x3, .int x4] [.int y0] (q_K o g) = (if 6 ≤ y0 then some (none, q_K o g) else (q_sem d mX10_isA 0 [.ref 1, .int x4, .int x2, .retAddr 0, .retAddr 0] [] (q_K o g)).bind (fun r => q_sem (d + 1) mX11_listLeast 37 [.ref 0, .ref t, .int x2, .int x3, .int x4] (r.1.toList ++ []) r.2)) := by
  refine (q_blk (Y := mX11_listLeast) (q_dcC dX11_listLeast_22 (q_dcC dX11_listLeast_24 q_dcN)) (show _ = some ((if q_cc .ge y0 6 = true then 66 else 27), [.ref 0, .ref t, .int x2, .int x3, .int x4], []) from rfl)).trans ?_
  by_cases c1 : 6 ≤ y0
  · rw [if_pos (show q_cc .ge y0 6 = true from decide_eq_true c1)]
    refine Eq.trans ?_ (if_pos c1).symm
    exact k_vret (Y := mX11_listLeast) dX11_listLeast_66 rfl
  · rw [if_neg (show ¬ q_cc .ge y0 6 = true from fun z => c1 (of_decide_eq_true z))]
    refine Eq.trans ?_ (if_neg c1).symm
    refine (q_blk (Y := mX11_listLeast) (q_dcC dX11_listLeast_27 q_dcN) (show _ = some (28, [.ref 0, .ref t, .int x2, .int x3, .int x4], [.ref 0]) from rfl)).trans ?_
    refine (k_getr (Y := mX11_listLeast) dX11_listLeast_28 rfl rfl ⟨by decide, rfl⟩ (by decide) rfl).trans ?_
    refine (q_blk (Y := mX11_listLeast) (q_dcC dX11_listLeast_31 (q_dcC dX11_listLeast_33 q_dcN)) (show _ = some (34, [.ref 0, .ref t, .int x2, .int x3, .int x4], [.int x2, .int x4, .ref 1]) from rfl)).trans ?_
    exact K_calV (d := d) (Y := mX11_listLeast) (Z := mX10_isA) (vs := [.int x4, .int x2]) (rest := []) (la := [.ref 1, .int x4, .int x2, .retAddr 0, .retAddr 0]) dX11_listLeast_34 rfl rfl rfl rfl ⟨by decide, rfl⟩ (Nat.le_of_ble_eq_true rfl) rfl (Nat.le_of_ble_eq_true rfl)
theorem B_X11_listLeast_37 {o : q_H} {t : Nat} (ht : q_is t 5) (d : Nat) (x2 x3 x4 y0 : Int32) (g : Nat → Nat → Int32) : q_sem (d + 1) mX11_listLeast 37 [.ref 0, .ref t, .int x2, .int x3, .int x4] [.int y0] (q_K o g) = (if y0 = 0 then q_sem (d + 1) mX11_listLeast 3 [.ref 0, .ref t, .int x2, .int x3, .int (x4 + 1)] [] (q_K o g) else (q_sem d mX10_stands 0 [.ref 1, .int x4, .int x3] [] (q_K o g)).bind (fun r => q_sem (d + 1) mX11_listLeast 50 [.ref 0, .ref t, .int x2, .int x3, .int x4] (r.1.toList ++ []) r.2)) := by
  refine (q_blk (Y := mX11_listLeast) (q_dcC dX11_listLeast_37 q_dcN) (show _ = some ((if q_cc .eq y0 0 = true then 60 else 40), [.ref 0, .ref t, .int x2, .int x3, .int x4], []) from rfl)).trans ?_
  by_cases c1 : y0 = 0
  · rw [if_pos (show q_cc .eq y0 0 = true from decide_eq_true c1)]
    refine Eq.trans ?_ (if_pos c1).symm
    refine (q_blk (Y := mX11_listLeast) (q_dcC dX11_listLeast_60 (q_dcC dX11_listLeast_63 q_dcN)) (show _ = some (3, [.ref 0, .ref t, .int x2, .int x3, .int (x4 + 1)], []) from rfl)).trans ?_
    rfl
  · rw [if_neg (show ¬ q_cc .eq y0 0 = true from fun z => c1 (of_decide_eq_true z))]
    refine Eq.trans ?_ (if_neg c1).symm
    refine (q_blk (Y := mX11_listLeast) (q_dcC dX11_listLeast_40 q_dcN) (show _ = some (41, [.ref 0, .ref t, .int x2, .int x3, .int x4], [.ref 0]) from rfl)).trans ?_
    refine (k_getr (Y := mX11_listLeast) dX11_listLeast_41 rfl rfl ⟨by decide, rfl⟩ (by decide) rfl).trans ?_
    refine (q_blk (Y := mX11_listLeast) (q_dcC dX11_listLeast_44 (q_dcC dX11_listLeast_46 q_dcN)) (show _ = some (47, [.ref 0, .ref t, .int x2, .int x3, .int x4], [.int x3, .int x4, .ref 1]) from rfl)).trans ?_
    exact K_calV (d := d) (Y := mX11_listLeast) (Z := mX10_stands) (vs := [.int x4, .int x3]) (rest := []) (la := [.ref 1, .int x4, .int x3]) dX11_listLeast_47 rfl rfl rfl rfl ⟨by decide, rfl⟩ (Nat.le_of_ble_eq_true rfl) rfl (Nat.le_of_ble_eq_true rfl)
theorem B_X11_listLeast_50 {o : q_H} {t : Nat} (ht : q_is t 5) (d : Nat) (x2 x3 x4 y0 : Int32) (g : Nat → Nat → Int32) : q_sem (d + 1) mX11_listLeast 50 [.ref 0, .ref t, .int x2, .int x3, .int x4] [.int y0] (q_K o g) = (if y0 = 0 then q_sem (d + 1) mX11_listLeast 3 [.ref 0, .ref t, .int x2, .int x3, .int (x4 + 1)] [] (q_K o g) else (q_sem d mX7_add 0 [.ref t, .int x4, .retAddr 0] [] (q_K o g)).bind (fun r => q_sem (d + 1) mX11_listLeast 59 [.ref 0, .ref t, .int x2, .int x3, .int x4] (r.1.toList ++ []) r.2)) := by
  refine (q_blk (Y := mX11_listLeast) (q_dcC dX11_listLeast_50 q_dcN) (show _ = some ((if q_cc .eq y0 0 = true then 60 else 53), [.ref 0, .ref t, .int x2, .int x3, .int x4], []) from rfl)).trans ?_
  by_cases c1 : y0 = 0
  · rw [if_pos (show q_cc .eq y0 0 = true from decide_eq_true c1)]
    refine Eq.trans ?_ (if_pos c1).symm
    refine (q_blk (Y := mX11_listLeast) (q_dcC dX11_listLeast_60 (q_dcC dX11_listLeast_63 q_dcN)) (show _ = some (3, [.ref 0, .ref t, .int x2, .int x3, .int (x4 + 1)], []) from rfl)).trans ?_
    rfl
  · rw [if_neg (show ¬ q_cc .eq y0 0 = true from fun z => c1 (of_decide_eq_true z))]
    refine Eq.trans ?_ (if_neg c1).symm
    refine (q_blk (Y := mX11_listLeast) (q_dcC dX11_listLeast_53 (q_dcC dX11_listLeast_54 q_dcN)) (show _ = some (56, [.ref 0, .ref t, .int x2, .int x3, .int x4], [.int x4, .ref t]) from rfl)).trans ?_
    exact K_calV (d := d) (Y := mX11_listLeast) (Z := mX7_add) (vs := [.int x4]) (rest := []) (la := [.ref t, .int x4, .retAddr 0]) dX11_listLeast_56 rfl rfl rfl rfl ht (Nat.le_of_ble_eq_true rfl) rfl (Nat.le_of_ble_eq_true rfl)
theorem B_X11_listLeast_59 {o : q_H} {t : Nat} (ht : q_is t 5) (d : Nat) (x2 x3 x4 y0 : Int32) (g : Nat → Nat → Int32) : q_sem (d) mX11_listLeast 59 [.ref 0, .ref t, .int x2, .int x3, .int x4] [.int y0] (q_K o g) = q_sem (d) mX11_listLeast 3 [.ref 0, .ref t, .int x2, .int x3, .int (x4 + 1)] [] (q_K o g) := by
  refine (q_blk (Y := mX11_listLeast) (q_dcC dX11_listLeast_59 (q_dcC dX11_listLeast_60 (q_dcC dX11_listLeast_63 q_dcN))) (show _ = some (3, [.ref 0, .ref t, .int x2, .int x3, .int (x4 + 1)], []) from rfl)).trans ?_
  rfl
theorem B_X11_matchRaids_0 {o : q_H} (d : Nat) (x1 : Int32) (g : Nat → Nat → Int32) : q_sem (d) mX11_matchRaids 0 [.ref 0, .int x1, .retAddr 0, .retAddr 0, .retAddr 0] [] (q_K o g) = q_sem (d) mX11_matchRaids 2 [.ref 0, .int x1, .int 0, .retAddr 0, .retAddr 0] [] (q_K o g) := by
  refine (q_blk (Y := mX11_matchRaids) (q_dcC dX11_matchRaids_0 (q_dcC dX11_matchRaids_1 q_dcN)) (show _ = some (2, [.ref 0, .int x1, .int 0, .retAddr 0, .retAddr 0], []) from rfl)).trans ?_
  rfl
theorem B_X11_matchRaids_2 {o : q_H} (d : Nat) (x1 x2 : Int32) (g : Nat → Nat → Int32) : q_sem (d + 1) mX11_matchRaids 2 [.ref 0, .int x1, .int x2, .retAddr 0, .retAddr 0] [] (q_K o g) = (q_sem d mX7_size 0 [.ref 73] [] (q_K o g)).bind (fun r => q_sem (d + 1) mX11_matchRaids 13 [.ref 0, .int x1, .int x2, .retAddr 0, .retAddr 0] (r.1.toList ++ [.int x2]) r.2) := by
  refine (q_blk (Y := mX11_matchRaids) (q_dcC dX11_matchRaids_2 (q_dcC dX11_matchRaids_3 q_dcN)) (show _ = some (4, [.ref 0, .int x1, .int x2, .retAddr 0, .retAddr 0], [.ref 0, .int x2]) from rfl)).trans ?_
  refine (k_getr (Y := mX11_matchRaids) dX11_matchRaids_4 rfl rfl ⟨by decide, rfl⟩ (by decide) rfl).trans ?_
  refine (k_getr (Y := mX11_matchRaids) dX11_matchRaids_7 rfl rfl ⟨by decide, rfl⟩ (by decide) rfl).trans ?_
  exact K_calV (d := d) (Y := mX11_matchRaids) (Z := mX7_size) (vs := []) (rest := [.int x2]) (la := [.ref 73]) dX11_matchRaids_10 rfl rfl rfl rfl ⟨by decide, rfl⟩ (Nat.le_of_ble_eq_true rfl) rfl (Nat.le_of_ble_eq_true rfl)
theorem B_X11_matchRaids_13 {o : q_H} (d : Nat) (x1 x2 y0 y1 : Int32) (g : Nat → Nat → Int32) : q_sem (d) mX11_matchRaids 13 [.ref 0, .int x1, .int x2, .retAddr 0, .retAddr 0] [.int y0, .int y1] (q_K o g) = (if y0 ≤ y1 then some (none, q_K o g) else q_sem (d) mX11_matchRaids 18 [.ref 0, .int x1, .int x2, .int 0, .retAddr 0] [] (q_K o g)) := by
  refine (q_blk (Y := mX11_matchRaids) (q_dcC dX11_matchRaids_13 q_dcN) (show _ = some ((if q_cc .ge y1 y0 = true then 106 else 16), [.ref 0, .int x1, .int x2, .retAddr 0, .retAddr 0], []) from rfl)).trans ?_
  by_cases c1 : y0 ≤ y1
  · rw [if_pos (show q_cc .ge y1 y0 = true from decide_eq_true c1)]
    refine Eq.trans ?_ (if_pos c1).symm
    exact k_vret (Y := mX11_matchRaids) dX11_matchRaids_106 rfl
  · rw [if_neg (show ¬ q_cc .ge y1 y0 = true from fun z => c1 (of_decide_eq_true z))]
    refine Eq.trans ?_ (if_neg c1).symm
    refine (q_blk (Y := mX11_matchRaids) (q_dcC dX11_matchRaids_16 (q_dcC dX11_matchRaids_17 q_dcN)) (show _ = some (18, [.ref 0, .int x1, .int x2, .int 0, .retAddr 0], []) from rfl)).trans ?_
    rfl
theorem B_X11_matchRaids_18 {o : q_H} (d : Nat) (x1 x2 x3 : Int32) (g : Nat → Nat → Int32) : q_sem (d + 1) mX11_matchRaids 18 [.ref 0, .int x1, .int x2, .int x3, .retAddr 0] [] (q_K o g) = (q_sem d mX7_size 0 [.ref 75] [] (q_K o g)).bind (fun r => q_sem (d + 1) mX11_matchRaids 29 [.ref 0, .int x1, .int x2, .int x3, .retAddr 0] (r.1.toList ++ [.int x3]) r.2) := by
  refine (q_blk (Y := mX11_matchRaids) (q_dcC dX11_matchRaids_18 (q_dcC dX11_matchRaids_19 q_dcN)) (show _ = some (20, [.ref 0, .int x1, .int x2, .int x3, .retAddr 0], [.ref 0, .int x3]) from rfl)).trans ?_
  refine (k_getr (Y := mX11_matchRaids) dX11_matchRaids_20 rfl rfl ⟨by decide, rfl⟩ (by decide) rfl).trans ?_
  refine (k_getr (Y := mX11_matchRaids) dX11_matchRaids_23 rfl rfl ⟨by decide, rfl⟩ (by decide) rfl).trans ?_
  exact K_calV (d := d) (Y := mX11_matchRaids) (Z := mX7_size) (vs := []) (rest := [.int x3]) (la := [.ref 75]) dX11_matchRaids_26 rfl rfl rfl rfl ⟨by decide, rfl⟩ (Nat.le_of_ble_eq_true rfl) rfl (Nat.le_of_ble_eq_true rfl)
theorem B_X11_matchRaids_29 {o : q_H} (d : Nat) (x1 x2 x3 y0 y1 : Int32) (g : Nat → Nat → Int32) : q_sem (d + 1) mX11_matchRaids 29 [.ref 0, .int x1, .int x2, .int x3, .retAddr 0] [.int y0, .int y1] (q_K o g) = (if y0 ≤ y1 then q_sem (d + 1) mX11_matchRaids 2 [.ref 0, .int x1, .int (x2 + 1), .int x3, .retAddr 0] [] (q_K o g) else (q_sem d mX7_get 0 [.ref 75, .int x3, .int 0] [] (q_K o g)).bind (fun r => q_sem (d + 1) mX11_matchRaids 48 [.ref 0, .int x1, .int x2, .int x3, .retAddr 0] (r.1.toList ++ [.ref 1]) r.2)) := by
  refine (q_blk (Y := mX11_matchRaids) (q_dcC dX11_matchRaids_29 q_dcN) (show _ = some ((if q_cc .ge y1 y0 = true then 100 else 32), [.ref 0, .int x1, .int x2, .int x3, .retAddr 0], []) from rfl)).trans ?_
  by_cases c1 : y0 ≤ y1
  · rw [if_pos (show q_cc .ge y1 y0 = true from decide_eq_true c1)]
    refine Eq.trans ?_ (if_pos c1).symm
    refine (q_blk (Y := mX11_matchRaids) (q_dcC dX11_matchRaids_100 (q_dcC dX11_matchRaids_103 q_dcN)) (show _ = some (2, [.ref 0, .int x1, .int (x2 + 1), .int x3, .retAddr 0], []) from rfl)).trans ?_
    rfl
  · rw [if_neg (show ¬ q_cc .ge y1 y0 = true from fun z => c1 (of_decide_eq_true z))]
    refine Eq.trans ?_ (if_neg c1).symm
    refine (q_blk (Y := mX11_matchRaids) (q_dcC dX11_matchRaids_32 q_dcN) (show _ = some (33, [.ref 0, .int x1, .int x2, .int x3, .retAddr 0], [.ref 0]) from rfl)).trans ?_
    refine (k_getr (Y := mX11_matchRaids) dX11_matchRaids_33 rfl rfl ⟨by decide, rfl⟩ (by decide) rfl).trans ?_
    refine (q_blk (Y := mX11_matchRaids) (q_dcC dX11_matchRaids_36 q_dcN) (show _ = some (37, [.ref 0, .int x1, .int x2, .int x3, .retAddr 0], [.ref 0, .ref 1]) from rfl)).trans ?_
    refine (k_getr (Y := mX11_matchRaids) dX11_matchRaids_37 rfl rfl ⟨by decide, rfl⟩ (by decide) rfl).trans ?_
    refine (k_getr (Y := mX11_matchRaids) dX11_matchRaids_40 rfl rfl ⟨by decide, rfl⟩ (by decide) rfl).trans ?_
    refine (q_blk (Y := mX11_matchRaids) (q_dcC dX11_matchRaids_43 (q_dcC dX11_matchRaids_44 q_dcN)) (show _ = some (45, [.ref 0, .int x1, .int x2, .int x3, .retAddr 0], [.int 0, .int x3, .ref 75, .ref 1]) from rfl)).trans ?_
    exact K_calV (d := d) (Y := mX11_matchRaids) (Z := mX7_get) (vs := [.int x3, .int 0]) (rest := [.ref 1]) (la := [.ref 75, .int x3, .int 0]) dX11_matchRaids_45 rfl rfl rfl rfl ⟨by decide, rfl⟩ (Nat.le_of_ble_eq_true rfl) rfl (Nat.le_of_ble_eq_true rfl)
theorem B_X11_matchRaids_2a {o : q_H} (d : Nat) (x1 x2 x3 : Int32) (g : Nat → Nat → Int32) : q_sem (d + 1) mX11_matchRaids 2 [.ref 0, .int x1, .int x2, .int x3, .retAddr 0] [] (q_K o g) = (q_sem d mX7_size 0 [.ref 73] [] (q_K o g)).bind (fun r => q_sem (d + 1) mX11_matchRaids 13 [.ref 0, .int x1, .int x2, .int x3, .retAddr 0] (r.1.toList ++ [.int x2]) r.2) := by
  refine (q_blk (Y := mX11_matchRaids) (q_dcC dX11_matchRaids_2 (q_dcC dX11_matchRaids_3 q_dcN)) (show _ = some (4, [.ref 0, .int x1, .int x2, .int x3, .retAddr 0], [.ref 0, .int x2]) from rfl)).trans ?_
  refine (k_getr (Y := mX11_matchRaids) dX11_matchRaids_4 rfl rfl ⟨by decide, rfl⟩ (by decide) rfl).trans ?_
  refine (k_getr (Y := mX11_matchRaids) dX11_matchRaids_7 rfl rfl ⟨by decide, rfl⟩ (by decide) rfl).trans ?_
  exact K_calV (d := d) (Y := mX11_matchRaids) (Z := mX7_size) (vs := []) (rest := [.int x2]) (la := [.ref 73]) dX11_matchRaids_10 rfl rfl rfl rfl ⟨by decide, rfl⟩ (Nat.le_of_ble_eq_true rfl) rfl (Nat.le_of_ble_eq_true rfl)
theorem B_X11_matchRaids_48 {o : q_H} (d : Nat) (x1 x2 x3 y0 : Int32) (g : Nat → Nat → Int32) : q_sem (d + 1) mX11_matchRaids 48 [.ref 0, .int x1, .int x2, .int x3, .retAddr 0] [.int y0, .ref 1] (q_K o g) = (q_sem d mX7_get 0 [.ref 73, .int x2, .int 0] [] (q_K o g)).bind (fun r => q_sem (d + 1) mX11_matchRaids 60 [.ref 0, .int x1, .int x2, .int x3, .retAddr 0] (r.1.toList ++ [.int y0, .ref 1]) r.2) := by
  refine (q_blk (Y := mX11_matchRaids) (q_dcC dX11_matchRaids_48 q_dcN) (show _ = some (49, [.ref 0, .int x1, .int x2, .int x3, .retAddr 0], [.ref 0, .int y0, .ref 1]) from rfl)).trans ?_
  refine (k_getr (Y := mX11_matchRaids) dX11_matchRaids_49 rfl rfl ⟨by decide, rfl⟩ (by decide) rfl).trans ?_
  refine (k_getr (Y := mX11_matchRaids) dX11_matchRaids_52 rfl rfl ⟨by decide, rfl⟩ (by decide) rfl).trans ?_
  refine (q_blk (Y := mX11_matchRaids) (q_dcC dX11_matchRaids_55 (q_dcC dX11_matchRaids_56 q_dcN)) (show _ = some (57, [.ref 0, .int x1, .int x2, .int x3, .retAddr 0], [.int 0, .int x2, .ref 73, .int y0, .ref 1]) from rfl)).trans ?_
  exact K_calV (d := d) (Y := mX11_matchRaids) (Z := mX7_get) (vs := [.int x2, .int 0]) (rest := [.int y0, .ref 1]) (la := [.ref 73, .int x2, .int 0]) dX11_matchRaids_57 rfl rfl rfl rfl ⟨by decide, rfl⟩ (Nat.le_of_ble_eq_true rfl) rfl (Nat.le_of_ble_eq_true rfl)
theorem B_X11_matchRaids_13a {o : q_H} (d : Nat) (x1 x2 x3 y0 y1 : Int32) (g : Nat → Nat → Int32) : q_sem (d) mX11_matchRaids 13 [.ref 0, .int x1, .int x2, .int x3, .retAddr 0] [.int y0, .int y1] (q_K o g) = (if y0 ≤ y1 then some (none, q_K o g) else q_sem (d) mX11_matchRaids 18 [.ref 0, .int x1, .int x2, .int 0, .retAddr 0] [] (q_K o g)) := by
  refine (q_blk (Y := mX11_matchRaids) (q_dcC dX11_matchRaids_13 q_dcN) (show _ = some ((if q_cc .ge y1 y0 = true then 106 else 16), [.ref 0, .int x1, .int x2, .int x3, .retAddr 0], []) from rfl)).trans ?_
  by_cases c1 : y0 ≤ y1
  · rw [if_pos (show q_cc .ge y1 y0 = true from decide_eq_true c1)]
    refine Eq.trans ?_ (if_pos c1).symm
    exact k_vret (Y := mX11_matchRaids) dX11_matchRaids_106 rfl
  · rw [if_neg (show ¬ q_cc .ge y1 y0 = true from fun z => c1 (of_decide_eq_true z))]
    refine Eq.trans ?_ (if_neg c1).symm
    refine (q_blk (Y := mX11_matchRaids) (q_dcC dX11_matchRaids_16 (q_dcC dX11_matchRaids_17 q_dcN)) (show _ = some (18, [.ref 0, .int x1, .int x2, .int 0, .retAddr 0], []) from rfl)).trans ?_
    rfl
theorem B_X11_matchRaids_60 {o : q_H} (d : Nat) (x1 x2 x3 y0 y1 : Int32) (g : Nat → Nat → Int32) : q_sem (d + 1) mX11_matchRaids 60 [.ref 0, .int x1, .int x2, .int x3, .retAddr 0] [.int y0, .int y1, .ref 1] (q_K o g) = (q_sem d mX10_minutesToMeet 0 [.ref 1, .int y1, .int y0, .retAddr 0, .retAddr 0, .retAddr 0, .retAddr 0, .retAddr 0, .retAddr 0] [] (q_K o g)).bind (fun r => q_sem (d + 1) mX11_matchRaids 63 [.ref 0, .int x1, .int x2, .int x3, .retAddr 0] (r.1.toList ++ []) r.2) := by
  exact K_calV (d := d) (Y := mX11_matchRaids) (Z := mX10_minutesToMeet) (vs := [.int y1, .int y0]) (rest := []) (la := [.ref 1, .int y1, .int y0, .retAddr 0, .retAddr 0, .retAddr 0, .retAddr 0, .retAddr 0, .retAddr 0]) dX11_matchRaids_60 rfl rfl rfl rfl ⟨by decide, rfl⟩ (Nat.le_of_ble_eq_true rfl) rfl (Nat.le_of_ble_eq_true rfl)
theorem B_X11_matchRaids_63 {o : q_H} (d : Nat) (x1 x2 x3 y0 : Int32) (g : Nat → Nat → Int32) : q_sem (d + 1) mX11_matchRaids 63 [.ref 0, .int x1, .int x2, .int x3, .retAddr 0] [.int y0] (q_K o g) = (q_sem d mX11_within 0 [.int y0, .int 1, .int x1] [] (q_K o g)).bind (fun r => q_sem (d + 1) mX11_matchRaids 72 [.ref 0, .int x1, .int x2, .int x3, .int y0] (r.1.toList ++ []) r.2) := by
  refine (q_blk (Y := mX11_matchRaids) (q_dcC dX11_matchRaids_63 (q_dcC dX11_matchRaids_65 (q_dcC dX11_matchRaids_67 (q_dcC dX11_matchRaids_68 q_dcN)))) (show _ = some (69, [.ref 0, .int x1, .int x2, .int x3, .int y0], [.int x1, .int 1, .int y0]) from rfl)).trans ?_
  exact K_calS (d := d) (Y := mX11_matchRaids) (Z := mX11_within) (vs := [.int y0, .int 1, .int x1]) (rest := []) (la := [.int y0, .int 1, .int x1]) dX11_matchRaids_69 rfl rfl rfl rfl (Nat.le_of_ble_eq_true rfl) rfl (Nat.le_of_ble_eq_true rfl)
theorem B_X11_matchRaids_72 {o : q_H} (d : Nat) (x1 x2 x3 x4 y0 : Int32) (g : Nat → Nat → Int32) : q_sem (d + 1) mX11_matchRaids 72 [.ref 0, .int x1, .int x2, .int x3, .int x4] [.int y0] (q_K o g) = (if y0 = 0 then q_sem (d + 1) mX11_matchRaids 18 [.ref 0, .int x1, .int x2, .int (x3 + 1), .int x4] [] (q_K o g) else (q_sem d mX1_allow 0 [.ref 72, .int x2, .int x3, .int ((g 1 8) + x4)] [] (q_K o g)).bind (fun r => q_sem (d + 1) mX11_matchRaids 94 [.ref 0, .int x1, .int x2, .int x3, .int x4] (r.1.toList ++ []) r.2)) := by
  refine (q_blk (Y := mX11_matchRaids) (q_dcC dX11_matchRaids_72 q_dcN) (show _ = some ((if q_cc .eq y0 0 = true then 94 else 75), [.ref 0, .int x1, .int x2, .int x3, .int x4], []) from rfl)).trans ?_
  by_cases c1 : y0 = 0
  · rw [if_pos (show q_cc .eq y0 0 = true from decide_eq_true c1)]
    refine Eq.trans ?_ (if_pos c1).symm
    refine (q_blk (Y := mX11_matchRaids) (q_dcC dX11_matchRaids_94 (q_dcC dX11_matchRaids_97 q_dcN)) (show _ = some (18, [.ref 0, .int x1, .int x2, .int (x3 + 1), .int x4], []) from rfl)).trans ?_
    rfl
  · rw [if_neg (show ¬ q_cc .eq y0 0 = true from fun z => c1 (of_decide_eq_true z))]
    refine Eq.trans ?_ (if_neg c1).symm
    refine (q_blk (Y := mX11_matchRaids) (q_dcC dX11_matchRaids_75 q_dcN) (show _ = some (76, [.ref 0, .int x1, .int x2, .int x3, .int x4], [.ref 0]) from rfl)).trans ?_
    refine (k_getr (Y := mX11_matchRaids) dX11_matchRaids_76 rfl rfl ⟨by decide, rfl⟩ (by decide) rfl).trans ?_
    refine (q_blk (Y := mX11_matchRaids) (q_dcC dX11_matchRaids_79 (q_dcC dX11_matchRaids_80 (q_dcC dX11_matchRaids_81 q_dcN))) (show _ = some (82, [.ref 0, .int x1, .int x2, .int x3, .int x4], [.ref 0, .int x3, .int x2, .ref 72]) from rfl)).trans ?_
    refine (k_getr (Y := mX11_matchRaids) dX11_matchRaids_82 rfl rfl ⟨by decide, rfl⟩ (by decide) rfl).trans ?_
    refine (k_geti (Y := mX11_matchRaids) dX11_matchRaids_85 rfl rfl ⟨by decide, rfl⟩ (by decide) rfl).trans ?_
    refine (q_blk (Y := mX11_matchRaids) (q_dcC dX11_matchRaids_88 (q_dcC dX11_matchRaids_90 q_dcN)) (show _ = some (91, [.ref 0, .int x1, .int x2, .int x3, .int x4], [.int ((g 1 8) + x4), .int x3, .int x2, .ref 72]) from rfl)).trans ?_
    exact K_calV (d := d) (Y := mX11_matchRaids) (Z := mX1_allow) (vs := [.int x2, .int x3, .int ((g 1 8) + x4)]) (rest := []) (la := [.ref 72, .int x2, .int x3, .int ((g 1 8) + x4)]) dX11_matchRaids_91 rfl rfl rfl rfl ⟨by decide, rfl⟩ (Nat.le_of_ble_eq_true rfl) rfl (Nat.le_of_ble_eq_true rfl)
theorem B_X11_matchRaids_18a {o : q_H} (d : Nat) (x1 x2 x3 x4 : Int32) (g : Nat → Nat → Int32) : q_sem (d + 1) mX11_matchRaids 18 [.ref 0, .int x1, .int x2, .int x3, .int x4] [] (q_K o g) = (q_sem d mX7_size 0 [.ref 75] [] (q_K o g)).bind (fun r => q_sem (d + 1) mX11_matchRaids 29 [.ref 0, .int x1, .int x2, .int x3, .int x4] (r.1.toList ++ [.int x3]) r.2) := by
  refine (q_blk (Y := mX11_matchRaids) (q_dcC dX11_matchRaids_18 (q_dcC dX11_matchRaids_19 q_dcN)) (show _ = some (20, [.ref 0, .int x1, .int x2, .int x3, .int x4], [.ref 0, .int x3]) from rfl)).trans ?_
  refine (k_getr (Y := mX11_matchRaids) dX11_matchRaids_20 rfl rfl ⟨by decide, rfl⟩ (by decide) rfl).trans ?_
  refine (k_getr (Y := mX11_matchRaids) dX11_matchRaids_23 rfl rfl ⟨by decide, rfl⟩ (by decide) rfl).trans ?_
  exact K_calV (d := d) (Y := mX11_matchRaids) (Z := mX7_size) (vs := []) (rest := [.int x3]) (la := [.ref 75]) dX11_matchRaids_26 rfl rfl rfl rfl ⟨by decide, rfl⟩ (Nat.le_of_ble_eq_true rfl) rfl (Nat.le_of_ble_eq_true rfl)
theorem B_X11_matchRaids_94 {o : q_H} (d : Nat) (x1 x2 x3 x4 : Int32) (g : Nat → Nat → Int32) : q_sem (d) mX11_matchRaids 94 [.ref 0, .int x1, .int x2, .int x3, .int x4] [] (q_K o g) = q_sem (d) mX11_matchRaids 18 [.ref 0, .int x1, .int x2, .int (x3 + 1), .int x4] [] (q_K o g) := by
  refine (q_blk (Y := mX11_matchRaids) (q_dcC dX11_matchRaids_94 (q_dcC dX11_matchRaids_97 q_dcN)) (show _ = some (18, [.ref 0, .int x1, .int x2, .int (x3 + 1), .int x4], []) from rfl)).trans ?_
  rfl
theorem B_X11_matchRaids_29a {o : q_H} (d : Nat) (x1 x2 x3 x4 y0 y1 : Int32) (g : Nat → Nat → Int32) : q_sem (d + 1) mX11_matchRaids 29 [.ref 0, .int x1, .int x2, .int x3, .int x4] [.int y0, .int y1] (q_K o g) = (if y0 ≤ y1 then q_sem (d + 1) mX11_matchRaids 2 [.ref 0, .int x1, .int (x2 + 1), .int x3, .int x4] [] (q_K o g) else (q_sem d mX7_get 0 [.ref 75, .int x3, .int 0] [] (q_K o g)).bind (fun r => q_sem (d + 1) mX11_matchRaids 48 [.ref 0, .int x1, .int x2, .int x3, .int x4] (r.1.toList ++ [.ref 1]) r.2)) := by
  refine (q_blk (Y := mX11_matchRaids) (q_dcC dX11_matchRaids_29 q_dcN) (show _ = some ((if q_cc .ge y1 y0 = true then 100 else 32), [.ref 0, .int x1, .int x2, .int x3, .int x4], []) from rfl)).trans ?_
  by_cases c1 : y0 ≤ y1
  · rw [if_pos (show q_cc .ge y1 y0 = true from decide_eq_true c1)]
    refine Eq.trans ?_ (if_pos c1).symm
    refine (q_blk (Y := mX11_matchRaids) (q_dcC dX11_matchRaids_100 (q_dcC dX11_matchRaids_103 q_dcN)) (show _ = some (2, [.ref 0, .int x1, .int (x2 + 1), .int x3, .int x4], []) from rfl)).trans ?_
    rfl
  · rw [if_neg (show ¬ q_cc .ge y1 y0 = true from fun z => c1 (of_decide_eq_true z))]
    refine Eq.trans ?_ (if_neg c1).symm
    refine (q_blk (Y := mX11_matchRaids) (q_dcC dX11_matchRaids_32 q_dcN) (show _ = some (33, [.ref 0, .int x1, .int x2, .int x3, .int x4], [.ref 0]) from rfl)).trans ?_
    refine (k_getr (Y := mX11_matchRaids) dX11_matchRaids_33 rfl rfl ⟨by decide, rfl⟩ (by decide) rfl).trans ?_
    refine (q_blk (Y := mX11_matchRaids) (q_dcC dX11_matchRaids_36 q_dcN) (show _ = some (37, [.ref 0, .int x1, .int x2, .int x3, .int x4], [.ref 0, .ref 1]) from rfl)).trans ?_
    refine (k_getr (Y := mX11_matchRaids) dX11_matchRaids_37 rfl rfl ⟨by decide, rfl⟩ (by decide) rfl).trans ?_
    refine (k_getr (Y := mX11_matchRaids) dX11_matchRaids_40 rfl rfl ⟨by decide, rfl⟩ (by decide) rfl).trans ?_
    refine (q_blk (Y := mX11_matchRaids) (q_dcC dX11_matchRaids_43 (q_dcC dX11_matchRaids_44 q_dcN)) (show _ = some (45, [.ref 0, .int x1, .int x2, .int x3, .int x4], [.int 0, .int x3, .ref 75, .ref 1]) from rfl)).trans ?_
    exact K_calV (d := d) (Y := mX11_matchRaids) (Z := mX7_get) (vs := [.int x3, .int 0]) (rest := [.ref 1]) (la := [.ref 75, .int x3, .int 0]) dX11_matchRaids_45 rfl rfl rfl rfl ⟨by decide, rfl⟩ (Nat.le_of_ble_eq_true rfl) rfl (Nat.le_of_ble_eq_true rfl)
theorem B_X11_matchRaids_2b {o : q_H} (d : Nat) (x1 x2 x3 x4 : Int32) (g : Nat → Nat → Int32) : q_sem (d + 1) mX11_matchRaids 2 [.ref 0, .int x1, .int x2, .int x3, .int x4] [] (q_K o g) = (q_sem d mX7_size 0 [.ref 73] [] (q_K o g)).bind (fun r => q_sem (d + 1) mX11_matchRaids 13 [.ref 0, .int x1, .int x2, .int x3, .int x4] (r.1.toList ++ [.int x2]) r.2) := by
  refine (q_blk (Y := mX11_matchRaids) (q_dcC dX11_matchRaids_2 (q_dcC dX11_matchRaids_3 q_dcN)) (show _ = some (4, [.ref 0, .int x1, .int x2, .int x3, .int x4], [.ref 0, .int x2]) from rfl)).trans ?_
  refine (k_getr (Y := mX11_matchRaids) dX11_matchRaids_4 rfl rfl ⟨by decide, rfl⟩ (by decide) rfl).trans ?_
  refine (k_getr (Y := mX11_matchRaids) dX11_matchRaids_7 rfl rfl ⟨by decide, rfl⟩ (by decide) rfl).trans ?_
  exact K_calV (d := d) (Y := mX11_matchRaids) (Z := mX7_size) (vs := []) (rest := [.int x2]) (la := [.ref 73]) dX11_matchRaids_10 rfl rfl rfl rfl ⟨by decide, rfl⟩ (Nat.le_of_ble_eq_true rfl) rfl (Nat.le_of_ble_eq_true rfl)
theorem B_X11_matchRaids_48a {o : q_H} (d : Nat) (x1 x2 x3 x4 y0 : Int32) (g : Nat → Nat → Int32) : q_sem (d + 1) mX11_matchRaids 48 [.ref 0, .int x1, .int x2, .int x3, .int x4] [.int y0, .ref 1] (q_K o g) = (q_sem d mX7_get 0 [.ref 73, .int x2, .int 0] [] (q_K o g)).bind (fun r => q_sem (d + 1) mX11_matchRaids 60 [.ref 0, .int x1, .int x2, .int x3, .int x4] (r.1.toList ++ [.int y0, .ref 1]) r.2) := by
  refine (q_blk (Y := mX11_matchRaids) (q_dcC dX11_matchRaids_48 q_dcN) (show _ = some (49, [.ref 0, .int x1, .int x2, .int x3, .int x4], [.ref 0, .int y0, .ref 1]) from rfl)).trans ?_
  refine (k_getr (Y := mX11_matchRaids) dX11_matchRaids_49 rfl rfl ⟨by decide, rfl⟩ (by decide) rfl).trans ?_
  refine (k_getr (Y := mX11_matchRaids) dX11_matchRaids_52 rfl rfl ⟨by decide, rfl⟩ (by decide) rfl).trans ?_
  refine (q_blk (Y := mX11_matchRaids) (q_dcC dX11_matchRaids_55 (q_dcC dX11_matchRaids_56 q_dcN)) (show _ = some (57, [.ref 0, .int x1, .int x2, .int x3, .int x4], [.int 0, .int x2, .ref 73, .int y0, .ref 1]) from rfl)).trans ?_
  exact K_calV (d := d) (Y := mX11_matchRaids) (Z := mX7_get) (vs := [.int x2, .int 0]) (rest := [.int y0, .ref 1]) (la := [.ref 73, .int x2, .int 0]) dX11_matchRaids_57 rfl rfl rfl rfl ⟨by decide, rfl⟩ (Nat.le_of_ble_eq_true rfl) rfl (Nat.le_of_ble_eq_true rfl)
theorem B_X11_matchRaids_13b {o : q_H} (d : Nat) (x1 x2 x3 x4 y0 y1 : Int32) (g : Nat → Nat → Int32) : q_sem (d) mX11_matchRaids 13 [.ref 0, .int x1, .int x2, .int x3, .int x4] [.int y0, .int y1] (q_K o g) = (if y0 ≤ y1 then some (none, q_K o g) else q_sem (d) mX11_matchRaids 18 [.ref 0, .int x1, .int x2, .int 0, .int x4] [] (q_K o g)) := by
  refine (q_blk (Y := mX11_matchRaids) (q_dcC dX11_matchRaids_13 q_dcN) (show _ = some ((if q_cc .ge y1 y0 = true then 106 else 16), [.ref 0, .int x1, .int x2, .int x3, .int x4], []) from rfl)).trans ?_
  by_cases c1 : y0 ≤ y1
  · rw [if_pos (show q_cc .ge y1 y0 = true from decide_eq_true c1)]
    refine Eq.trans ?_ (if_pos c1).symm
    exact k_vret (Y := mX11_matchRaids) dX11_matchRaids_106 rfl
  · rw [if_neg (show ¬ q_cc .ge y1 y0 = true from fun z => c1 (of_decide_eq_true z))]
    refine Eq.trans ?_ (if_neg c1).symm
    refine (q_blk (Y := mX11_matchRaids) (q_dcC dX11_matchRaids_16 (q_dcC dX11_matchRaids_17 q_dcN)) (show _ = some (18, [.ref 0, .int x1, .int x2, .int 0, .int x4], []) from rfl)).trans ?_
    rfl
theorem B_X11_matchRaids_60a {o : q_H} (d : Nat) (x1 x2 x3 x4 y0 y1 : Int32) (g : Nat → Nat → Int32) : q_sem (d + 1) mX11_matchRaids 60 [.ref 0, .int x1, .int x2, .int x3, .int x4] [.int y0, .int y1, .ref 1] (q_K o g) = (q_sem d mX10_minutesToMeet 0 [.ref 1, .int y1, .int y0, .retAddr 0, .retAddr 0, .retAddr 0, .retAddr 0, .retAddr 0, .retAddr 0] [] (q_K o g)).bind (fun r => q_sem (d + 1) mX11_matchRaids 63 [.ref 0, .int x1, .int x2, .int x3, .int x4] (r.1.toList ++ []) r.2) := by
  exact K_calV (d := d) (Y := mX11_matchRaids) (Z := mX10_minutesToMeet) (vs := [.int y1, .int y0]) (rest := []) (la := [.ref 1, .int y1, .int y0, .retAddr 0, .retAddr 0, .retAddr 0, .retAddr 0, .retAddr 0, .retAddr 0]) dX11_matchRaids_60 rfl rfl rfl rfl ⟨by decide, rfl⟩ (Nat.le_of_ble_eq_true rfl) rfl (Nat.le_of_ble_eq_true rfl)
theorem B_X11_matchRaids_63a {o : q_H} (d : Nat) (x1 x2 x3 x4 y0 : Int32) (g : Nat → Nat → Int32) : q_sem (d + 1) mX11_matchRaids 63 [.ref 0, .int x1, .int x2, .int x3, .int x4] [.int y0] (q_K o g) = (q_sem d mX11_within 0 [.int y0, .int 1, .int x1] [] (q_K o g)).bind (fun r => q_sem (d + 1) mX11_matchRaids 72 [.ref 0, .int x1, .int x2, .int x3, .int y0] (r.1.toList ++ []) r.2) := by
  refine (q_blk (Y := mX11_matchRaids) (q_dcC dX11_matchRaids_63 (q_dcC dX11_matchRaids_65 (q_dcC dX11_matchRaids_67 (q_dcC dX11_matchRaids_68 q_dcN)))) (show _ = some (69, [.ref 0, .int x1, .int x2, .int x3, .int y0], [.int x1, .int 1, .int y0]) from rfl)).trans ?_
  exact K_calS (d := d) (Y := mX11_matchRaids) (Z := mX11_within) (vs := [.int y0, .int 1, .int x1]) (rest := []) (la := [.int y0, .int 1, .int x1]) dX11_matchRaids_69 rfl rfl rfl rfl (Nat.le_of_ble_eq_true rfl) rfl (Nat.le_of_ble_eq_true rfl)
theorem B_X11_pilots_0 {o : q_H} (d : Nat) (x1 x2 : Int32) (g : Nat → Nat → Int32) : q_sem (d + 1) mX11_pilots 0 [.ref 0, .int x1, .int x2, .retAddr 0] [] (q_K o g) = (q_sem d mX6_wanting 0 [.ref 69, .int x1] [] (q_K o g)).bind (fun r => q_sem (d + 1) mX11_pilots 8 [.ref 0, .int x1, .int x2, .retAddr 0] (r.1.toList ++ []) r.2) := by
  refine (q_blk (Y := mX11_pilots) (q_dcC dX11_pilots_0 q_dcN) (show _ = some (1, [.ref 0, .int x1, .int x2, .retAddr 0], [.ref 0]) from rfl)).trans ?_
  refine (k_getr (Y := mX11_pilots) dX11_pilots_1 rfl rfl ⟨by decide, rfl⟩ (by decide) rfl).trans ?_
  refine (q_blk (Y := mX11_pilots) (q_dcC dX11_pilots_4 q_dcN) (show _ = some (5, [.ref 0, .int x1, .int x2, .retAddr 0], [.int x1, .ref 69]) from rfl)).trans ?_
  exact K_calV (d := d) (Y := mX11_pilots) (Z := mX6_wanting) (vs := [.int x1]) (rest := []) (la := [.ref 69, .int x1]) dX11_pilots_5 rfl rfl rfl rfl ⟨by decide, rfl⟩ (Nat.le_of_ble_eq_true rfl) rfl (Nat.le_of_ble_eq_true rfl)
theorem B_X11_pilots_8 {o : q_H} (d : Nat) (x1 x2 y0 : Int32) (g : Nat → Nat → Int32) : q_sem (d + 1) mX11_pilots 8 [.ref 0, .int x1, .int x2, .retAddr 0] [.int y0] (q_K o g) = (if y0 = 0 then (q_sem d mX4_read 0 [.ref 84, .ref 69, .int x1, .retAddr 0, .retAddr 0] [] (q_K o g)).bind (fun r => q_sem (d + 1) mX11_pilots 31 [.ref 0, .int x1, .int x2, .int y0] (r.1.toList ++ []) r.2) else (q_sem d mX11_finding 0 [.ref 0, .int y0] [] (q_K o g)).bind (fun r => q_sem (d + 1) mX11_pilots 18 [.ref 0, .int x1, .int x2, .int y0] (r.1.toList ++ []) r.2)) := by
  refine (q_blk (Y := mX11_pilots) (q_dcC dX11_pilots_8 (q_dcC dX11_pilots_9 (q_dcC dX11_pilots_10 q_dcN))) (show _ = some ((if q_cc .eq y0 0 = true then 19 else 13), [.ref 0, .int x1, .int x2, .int y0], []) from rfl)).trans ?_
  by_cases c1 : y0 = 0
  · rw [if_pos (show q_cc .eq y0 0 = true from decide_eq_true c1)]
    refine Eq.trans ?_ (if_pos c1).symm
    refine (q_blk (Y := mX11_pilots) (q_dcC dX11_pilots_19 q_dcN) (show _ = some (20, [.ref 0, .int x1, .int x2, .int y0], [.ref 0]) from rfl)).trans ?_
    refine (k_getr (Y := mX11_pilots) dX11_pilots_20 rfl rfl ⟨by decide, rfl⟩ (by decide) rfl).trans ?_
    refine (q_blk (Y := mX11_pilots) (q_dcC dX11_pilots_23 q_dcN) (show _ = some (24, [.ref 0, .int x1, .int x2, .int y0], [.ref 0, .ref 84]) from rfl)).trans ?_
    refine (k_getr (Y := mX11_pilots) dX11_pilots_24 rfl rfl ⟨by decide, rfl⟩ (by decide) rfl).trans ?_
    refine (q_blk (Y := mX11_pilots) (q_dcC dX11_pilots_27 q_dcN) (show _ = some (28, [.ref 0, .int x1, .int x2, .int y0], [.int x1, .ref 69, .ref 84]) from rfl)).trans ?_
    exact K_calV (d := d) (Y := mX11_pilots) (Z := mX4_read) (vs := [.ref 69, .int x1]) (rest := []) (la := [.ref 84, .ref 69, .int x1, .retAddr 0, .retAddr 0]) dX11_pilots_28 rfl rfl rfl rfl ⟨by decide, rfl⟩ (Nat.le_of_ble_eq_true rfl) rfl (Nat.le_of_ble_eq_true rfl)
  · rw [if_neg (show ¬ q_cc .eq y0 0 = true from fun z => c1 (of_decide_eq_true z))]
    refine Eq.trans ?_ (if_neg c1).symm
    refine (q_blk (Y := mX11_pilots) (q_dcC dX11_pilots_13 (q_dcC dX11_pilots_14 q_dcN)) (show _ = some (15, [.ref 0, .int x1, .int x2, .int y0], [.int y0, .ref 0]) from rfl)).trans ?_
    exact K_calV (d := d) (Y := mX11_pilots) (Z := mX11_finding) (vs := [.int y0]) (rest := []) (la := [.ref 0, .int y0]) dX11_pilots_15 rfl rfl rfl rfl ⟨by decide, rfl⟩ (Nat.le_of_ble_eq_true rfl) rfl (Nat.le_of_ble_eq_true rfl)
theorem B_X11_pilots_31 {o : q_H} (d : Nat) (x1 x2 x3 y0 : Int32) (g : Nat → Nat → Int32) : q_sem (d + 1) mX11_pilots 31 [.ref 0, .int x1, .int x2, .int x3] [.int y0] (q_K o g) = (if y0 = 0 then (q_sem d mX11_finding 0 [.ref 0, .int 5] [] (q_K o g)).bind (fun r => q_sem (d + 1) mX11_pilots 39 [.ref 0, .int x1, .int x2, .int x3] (r.1.toList ++ []) r.2) else (q_sem d mX6_size 0 [.ref 69, .int x1] [] (q_K o g)).bind (fun r => q_sem (d + 1) mX11_pilots 50 [.ref 0, .int x1, .int x2, .int x3] (r.1.toList ++ [.int 0, .int x2]) r.2)) := by
  refine (q_blk (Y := mX11_pilots) (q_dcC dX11_pilots_31 q_dcN) (show _ = some ((if q_cc .ne y0 0 = true then 40 else 34), [.ref 0, .int x1, .int x2, .int x3], []) from rfl)).trans ?_
  by_cases c1 : y0 = 0
  · rw [if_neg (show ¬ q_cc .ne y0 0 = true from fun z => (of_decide_eq_true z : ¬ y0 = 0) c1)]
    refine Eq.trans ?_ (if_pos c1).symm
    refine (q_blk (Y := mX11_pilots) (q_dcC dX11_pilots_34 (q_dcC dX11_pilots_35 q_dcN)) (show _ = some (36, [.ref 0, .int x1, .int x2, .int x3], [.int 5, .ref 0]) from rfl)).trans ?_
    exact K_calV (d := d) (Y := mX11_pilots) (Z := mX11_finding) (vs := [.int 5]) (rest := []) (la := [.ref 0, .int 5]) dX11_pilots_36 rfl rfl rfl rfl ⟨by decide, rfl⟩ (Nat.le_of_ble_eq_true rfl) rfl (Nat.le_of_ble_eq_true rfl)
  · rw [if_pos (show q_cc .ne y0 0 = true from decide_eq_true c1)]
    refine Eq.trans ?_ (if_neg c1).symm
    refine (q_blk (Y := mX11_pilots) (q_dcC dX11_pilots_40 (q_dcC dX11_pilots_41 (q_dcC dX11_pilots_42 q_dcN))) (show _ = some (43, [.ref 0, .int x1, .int x2, .int x3], [.ref 0, .int 0, .int x2]) from rfl)).trans ?_
    refine (k_getr (Y := mX11_pilots) dX11_pilots_43 rfl rfl ⟨by decide, rfl⟩ (by decide) rfl).trans ?_
    refine (q_blk (Y := mX11_pilots) (q_dcC dX11_pilots_46 q_dcN) (show _ = some (47, [.ref 0, .int x1, .int x2, .int x3], [.int x1, .ref 69, .int 0, .int x2]) from rfl)).trans ?_
    exact K_calV (d := d) (Y := mX11_pilots) (Z := mX6_size) (vs := [.int x1]) (rest := [.int 0, .int x2]) (la := [.ref 69, .int x1]) dX11_pilots_47 rfl rfl rfl rfl ⟨by decide, rfl⟩ (Nat.le_of_ble_eq_true rfl) rfl (Nat.le_of_ble_eq_true rfl)
theorem B_X11_pilots_18 {o : q_H} (d : Nat) (x1 x2 x3 y0 : Int32) (g : Nat → Nat → Int32) : q_sem (d) mX11_pilots 18 [.ref 0, .int x1, .int x2, .int x3] [.int y0] (q_K o g) = some (some (.int y0), q_K o g) := by
  exact k_iret (Y := mX11_pilots) dX11_pilots_18 rfl
theorem B_X11_pilots_39 {o : q_H} (d : Nat) (x1 x2 x3 y0 : Int32) (g : Nat → Nat → Int32) : q_sem (d) mX11_pilots 39 [.ref 0, .int x1, .int x2, .int x3] [.int y0] (q_K o g) = some (some (.int y0), q_K o g) := by
  exact k_iret (Y := mX11_pilots) dX11_pilots_39 rfl
theorem B_X11_pilots_50 {o : q_H} (d : Nat) (x1 x2 x3 y0 y1 y2 : Int32) (g : Nat → Nat → Int32) : q_sem (d + 1) mX11_pilots 50 [.ref 0, .int x1, .int x2, .int x3] [.int y0, .int y1, .int y2] (q_K o g) = (q_sem d mX11_within 0 [.int y2, .int y1, .int (y0 - 1)] [] (q_K o g)).bind (fun r => q_sem (d + 1) mX11_pilots 55 [.ref 0, .int x1, .int x2, .int x3] (r.1.toList ++ []) r.2) := by
  refine (q_blk (Y := mX11_pilots) (q_dcC dX11_pilots_50 (q_dcC dX11_pilots_51 q_dcN)) (show _ = some (52, [.ref 0, .int x1, .int x2, .int x3], [.int (y0 - 1), .int y1, .int y2]) from rfl)).trans ?_
  exact K_calS (d := d) (Y := mX11_pilots) (Z := mX11_within) (vs := [.int y2, .int y1, .int (y0 - 1)]) (rest := []) (la := [.int y2, .int y1, .int (y0 - 1)]) dX11_pilots_52 rfl rfl rfl rfl (Nat.le_of_ble_eq_true rfl) rfl (Nat.le_of_ble_eq_true rfl)
theorem B_X11_pilots_55 {o : q_H} (d : Nat) (x1 x2 x3 y0 : Int32) (g : Nat → Nat → Int32) : q_sem (d + 1) mX11_pilots 55 [.ref 0, .int x1, .int x2, .int x3] [.int y0] (q_K o g) = (if y0 = 0 then (q_sem d mX11_finding 0 [.ref 0, .int 1] [] (q_K o g)).bind (fun r => q_sem (d + 1) mX11_pilots 63 [.ref 0, .int x1, .int x2, .int x3] (r.1.toList ++ []) r.2) else (q_sem d mX4_lay 0 [.ref 84, .retAddr 0, .retAddr 0] [] (q_K o g)).bind (fun r => q_sem (d + 1) mX11_pilots 71 [.ref 0, .int x1, .int x2, .int x3] (r.1.toList ++ []) r.2)) := by
  refine (q_blk (Y := mX11_pilots) (q_dcC dX11_pilots_55 q_dcN) (show _ = some ((if q_cc .ne y0 0 = true then 64 else 58), [.ref 0, .int x1, .int x2, .int x3], []) from rfl)).trans ?_
  by_cases c1 : y0 = 0
  · rw [if_neg (show ¬ q_cc .ne y0 0 = true from fun z => (of_decide_eq_true z : ¬ y0 = 0) c1)]
    refine Eq.trans ?_ (if_pos c1).symm
    refine (q_blk (Y := mX11_pilots) (q_dcC dX11_pilots_58 (q_dcC dX11_pilots_59 q_dcN)) (show _ = some (60, [.ref 0, .int x1, .int x2, .int x3], [.int 1, .ref 0]) from rfl)).trans ?_
    exact K_calV (d := d) (Y := mX11_pilots) (Z := mX11_finding) (vs := [.int 1]) (rest := []) (la := [.ref 0, .int 1]) dX11_pilots_60 rfl rfl rfl rfl ⟨by decide, rfl⟩ (Nat.le_of_ble_eq_true rfl) rfl (Nat.le_of_ble_eq_true rfl)
  · rw [if_pos (show q_cc .ne y0 0 = true from decide_eq_true c1)]
    refine Eq.trans ?_ (if_neg c1).symm
    refine (q_blk (Y := mX11_pilots) (q_dcC dX11_pilots_64 q_dcN) (show _ = some (65, [.ref 0, .int x1, .int x2, .int x3], [.ref 0]) from rfl)).trans ?_
    refine (k_getr (Y := mX11_pilots) dX11_pilots_65 rfl rfl ⟨by decide, rfl⟩ (by decide) rfl).trans ?_
    exact K_calV (d := d) (Y := mX11_pilots) (Z := mX4_lay) (vs := []) (rest := []) (la := [.ref 84, .retAddr 0, .retAddr 0]) dX11_pilots_68 rfl rfl rfl rfl ⟨by decide, rfl⟩ (Nat.le_of_ble_eq_true rfl) rfl (Nat.le_of_ble_eq_true rfl)
theorem B_X11_pilots_63 {o : q_H} (d : Nat) (x1 x2 x3 y0 : Int32) (g : Nat → Nat → Int32) : q_sem (d) mX11_pilots 63 [.ref 0, .int x1, .int x2, .int x3] [.int y0] (q_K o g) = some (some (.int y0), q_K o g) := by
  exact k_iret (Y := mX11_pilots) dX11_pilots_63 rfl
theorem B_X11_pilots_71 {o : q_H} (d : Nat) (x1 x2 x3 y0 : Int32) (g : Nat → Nat → Int32) : q_sem (d + 1) mX11_pilots 71 [.ref 0, .int x1, .int x2, .int x3] [.int y0] (q_K o g) = (if y0 = 0 then (q_sem d mX11_finding 0 [.ref 0, .int 3] [] (q_K o g)).bind (fun r => q_sem (d + 1) mX11_pilots 90 [.ref 0, .int x1, .int x2, .int x3] (r.1.toList ++ []) r.2) else (q_sem d mX4_day 0 [.ref 84, .int x2] [] (q_K o g)).bind (fun r => q_sem (d + 1) mX11_pilots 82 [.ref 0, .int x1, .int x2, .int x3] (r.1.toList ++ []) r.2)) := by
  refine (q_blk (Y := mX11_pilots) (q_dcC dX11_pilots_71 q_dcN) (show _ = some ((if q_cc .eq y0 0 = true then 85 else 74), [.ref 0, .int x1, .int x2, .int x3], []) from rfl)).trans ?_
  by_cases c1 : y0 = 0
  · rw [if_pos (show q_cc .eq y0 0 = true from decide_eq_true c1)]
    refine Eq.trans ?_ (if_pos c1).symm
    refine (q_blk (Y := mX11_pilots) (q_dcC dX11_pilots_85 (q_dcC dX11_pilots_86 q_dcN)) (show _ = some (87, [.ref 0, .int x1, .int x2, .int x3], [.int 3, .ref 0]) from rfl)).trans ?_
    exact K_calV (d := d) (Y := mX11_pilots) (Z := mX11_finding) (vs := [.int 3]) (rest := []) (la := [.ref 0, .int 3]) dX11_pilots_87 rfl rfl rfl rfl ⟨by decide, rfl⟩ (Nat.le_of_ble_eq_true rfl) rfl (Nat.le_of_ble_eq_true rfl)
  · rw [if_neg (show ¬ q_cc .eq y0 0 = true from fun z => c1 (of_decide_eq_true z))]
    refine Eq.trans ?_ (if_neg c1).symm
    refine (q_blk (Y := mX11_pilots) (q_dcC dX11_pilots_74 q_dcN) (show _ = some (75, [.ref 0, .int x1, .int x2, .int x3], [.ref 0]) from rfl)).trans ?_
    refine (k_getr (Y := mX11_pilots) dX11_pilots_75 rfl rfl ⟨by decide, rfl⟩ (by decide) rfl).trans ?_
    refine (q_blk (Y := mX11_pilots) (q_dcC dX11_pilots_78 q_dcN) (show _ = some (79, [.ref 0, .int x1, .int x2, .int x3], [.int x2, .ref 84]) from rfl)).trans ?_
    exact K_calV (d := d) (Y := mX11_pilots) (Z := mX4_day) (vs := [.int x2]) (rest := []) (la := [.ref 84, .int x2]) dX11_pilots_79 rfl rfl rfl rfl ⟨by decide, rfl⟩ (Nat.le_of_ble_eq_true rfl) rfl (Nat.le_of_ble_eq_true rfl)
theorem B_X11_pilots_90 {o : q_H} (d : Nat) (x1 x2 x3 y0 : Int32) (g : Nat → Nat → Int32) : q_sem (d) mX11_pilots 90 [.ref 0, .int x1, .int x2, .int x3] [.int y0] (q_K o g) = some (some (.int y0), q_K o g) := by
  exact k_iret (Y := mX11_pilots) dX11_pilots_90 rfl
theorem B_X11_pilots_82 {o : q_H} (d : Nat) (x1 x2 x3 y0 : Int32) (g : Nat → Nat → Int32) : q_sem (d) mX11_pilots 82 [.ref 0, .int x1, .int x2, .int x3] [.int y0] (q_K o g) = some (some (.int y0), q_K o g) := by
  refine (q_blk (Y := mX11_pilots) (q_dcC dX11_pilots_82 q_dcN) (show _ = some (90, [.ref 0, .int x1, .int x2, .int x3], [.int y0]) from rfl)).trans ?_
  exact k_iret (Y := mX11_pilots) dX11_pilots_90 rfl
theorem B_X11_laying_0 {o : q_H} (d : Nat) (x1 x2 x3 x4 : Int32) (g : Nat → Nat → Int32) : q_sem (d + 1) mX11_laying 0 [.ref 0, .int x1, .int x2, .int x3, .int x4] [] (q_K o g) = (q_sem d mX6_has 0 [.ref 69, .int x1] [] (q_K o g)).bind (fun r => q_sem (d + 1) mX11_laying 8 [.ref 0, .int x1, .int x2, .int x3, .int x4] (r.1.toList ++ []) r.2) := by
  refine (q_blk (Y := mX11_laying) (q_dcC dX11_laying_0 q_dcN) (show _ = some (1, [.ref 0, .int x1, .int x2, .int x3, .int x4], [.ref 0]) from rfl)).trans ?_
  refine (k_getr (Y := mX11_laying) dX11_laying_1 rfl rfl ⟨by decide, rfl⟩ (by decide) rfl).trans ?_
  refine (q_blk (Y := mX11_laying) (q_dcC dX11_laying_4 q_dcN) (show _ = some (5, [.ref 0, .int x1, .int x2, .int x3, .int x4], [.int x1, .ref 69]) from rfl)).trans ?_
  exact K_calV (d := d) (Y := mX11_laying) (Z := mX6_has) (vs := [.int x1]) (rest := []) (la := [.ref 69, .int x1]) dX11_laying_5 rfl rfl rfl rfl ⟨by decide, rfl⟩ (Nat.le_of_ble_eq_true rfl) rfl (Nat.le_of_ble_eq_true rfl)
theorem B_X11_laying_8 {o : q_H} (d : Nat) (x1 x2 x3 x4 y0 : Int32) (g : Nat → Nat → Int32) : q_sem (d + 1) mX11_laying 8 [.ref 0, .int x1, .int x2, .int x3, .int x4] [.int y0] (q_K o g) = (if y0 = 0 then (q_sem d mX11_finding 0 [.ref 0, .int 1] [] (q_K o g)).bind (fun r => q_sem (d + 1) mX11_laying 46 [.ref 0, .int x1, .int x2, .int x3, .int x4] (r.1.toList ++ []) r.2) else (q_sem d mX6_has 0 [.ref 69, .int x2] [] (q_K o g)).bind (fun r => q_sem (d + 1) mX11_laying 19 [.ref 0, .int x1, .int x2, .int x3, .int x4] (r.1.toList ++ []) r.2)) := by
  refine (q_blk (Y := mX11_laying) (q_dcC dX11_laying_8 q_dcN) (show _ = some ((if q_cc .eq y0 0 = true then 41 else 11), [.ref 0, .int x1, .int x2, .int x3, .int x4], []) from rfl)).trans ?_
  by_cases c1 : y0 = 0
  · rw [if_pos (show q_cc .eq y0 0 = true from decide_eq_true c1)]
    refine Eq.trans ?_ (if_pos c1).symm
    refine (q_blk (Y := mX11_laying) (q_dcC dX11_laying_41 (q_dcC dX11_laying_42 q_dcN)) (show _ = some (43, [.ref 0, .int x1, .int x2, .int x3, .int x4], [.int 1, .ref 0]) from rfl)).trans ?_
    exact K_calV (d := d) (Y := mX11_laying) (Z := mX11_finding) (vs := [.int 1]) (rest := []) (la := [.ref 0, .int 1]) dX11_laying_43 rfl rfl rfl rfl ⟨by decide, rfl⟩ (Nat.le_of_ble_eq_true rfl) rfl (Nat.le_of_ble_eq_true rfl)
  · rw [if_neg (show ¬ q_cc .eq y0 0 = true from fun z => c1 (of_decide_eq_true z))]
    refine Eq.trans ?_ (if_neg c1).symm
    refine (q_blk (Y := mX11_laying) (q_dcC dX11_laying_11 q_dcN) (show _ = some (12, [.ref 0, .int x1, .int x2, .int x3, .int x4], [.ref 0]) from rfl)).trans ?_
    refine (k_getr (Y := mX11_laying) dX11_laying_12 rfl rfl ⟨by decide, rfl⟩ (by decide) rfl).trans ?_
    refine (q_blk (Y := mX11_laying) (q_dcC dX11_laying_15 q_dcN) (show _ = some (16, [.ref 0, .int x1, .int x2, .int x3, .int x4], [.int x2, .ref 69]) from rfl)).trans ?_
    exact K_calV (d := d) (Y := mX11_laying) (Z := mX6_has) (vs := [.int x2]) (rest := []) (la := [.ref 69, .int x2]) dX11_laying_16 rfl rfl rfl rfl ⟨by decide, rfl⟩ (Nat.le_of_ble_eq_true rfl) rfl (Nat.le_of_ble_eq_true rfl)
theorem B_X11_laying_46 {o : q_H} (d : Nat) (x1 x2 x3 x4 y0 : Int32) (g : Nat → Nat → Int32) : q_sem (d) mX11_laying 46 [.ref 0, .int x1, .int x2, .int x3, .int x4] [.int y0] (q_K o g) = some (some (.int y0), q_K o g) := by
  exact k_iret (Y := mX11_laying) dX11_laying_46 rfl
theorem B_X11_laying_19 {o : q_H} (d : Nat) (x1 x2 x3 x4 y0 : Int32) (g : Nat → Nat → Int32) : q_sem (d + 1) mX11_laying 19 [.ref 0, .int x1, .int x2, .int x3, .int x4] [.int y0] (q_K o g) = (if y0 = 0 then (q_sem d mX11_finding 0 [.ref 0, .int 1] [] (q_K o g)).bind (fun r => q_sem (d + 1) mX11_laying 46 [.ref 0, .int x1, .int x2, .int x3, .int x4] (r.1.toList ++ []) r.2) else (q_sem d mX11_within 0 [.int x3, .int 1, .int 4] [] (q_K o g)).bind (fun r => q_sem (d + 1) mX11_laying 28 [.ref 0, .int x1, .int x2, .int x3, .int x4] (r.1.toList ++ []) r.2)) := by
  refine (q_blk (Y := mX11_laying) (q_dcC dX11_laying_19 q_dcN) (show _ = some ((if q_cc .eq y0 0 = true then 41 else 22), [.ref 0, .int x1, .int x2, .int x3, .int x4], []) from rfl)).trans ?_
  by_cases c1 : y0 = 0
  · rw [if_pos (show q_cc .eq y0 0 = true from decide_eq_true c1)]
    refine Eq.trans ?_ (if_pos c1).symm
    refine (q_blk (Y := mX11_laying) (q_dcC dX11_laying_41 (q_dcC dX11_laying_42 q_dcN)) (show _ = some (43, [.ref 0, .int x1, .int x2, .int x3, .int x4], [.int 1, .ref 0]) from rfl)).trans ?_
    exact K_calV (d := d) (Y := mX11_laying) (Z := mX11_finding) (vs := [.int 1]) (rest := []) (la := [.ref 0, .int 1]) dX11_laying_43 rfl rfl rfl rfl ⟨by decide, rfl⟩ (Nat.le_of_ble_eq_true rfl) rfl (Nat.le_of_ble_eq_true rfl)
  · rw [if_neg (show ¬ q_cc .eq y0 0 = true from fun z => c1 (of_decide_eq_true z))]
    refine Eq.trans ?_ (if_neg c1).symm
    refine (q_blk (Y := mX11_laying) (q_dcC dX11_laying_22 (q_dcC dX11_laying_23 (q_dcC dX11_laying_24 q_dcN))) (show _ = some (25, [.ref 0, .int x1, .int x2, .int x3, .int x4], [.int 4, .int 1, .int x3]) from rfl)).trans ?_
    exact K_calS (d := d) (Y := mX11_laying) (Z := mX11_within) (vs := [.int x3, .int 1, .int 4]) (rest := []) (la := [.int x3, .int 1, .int 4]) dX11_laying_25 rfl rfl rfl rfl (Nat.le_of_ble_eq_true rfl) rfl (Nat.le_of_ble_eq_true rfl)
theorem B_X11_laying_28 {o : q_H} (d : Nat) (x1 x2 x3 x4 y0 : Int32) (g : Nat → Nat → Int32) : q_sem (d + 1) mX11_laying 28 [.ref 0, .int x1, .int x2, .int x3, .int x4] [.int y0] (q_K o g) = (if y0 = 0 then (q_sem d mX11_finding 0 [.ref 0, .int 1] [] (q_K o g)).bind (fun r => q_sem (d + 1) mX11_laying 46 [.ref 0, .int x1, .int x2, .int x3, .int x4] (r.1.toList ++ []) r.2) else (q_sem d mX11_within 0 [.int x4, .int (-1), .int 0] [] (q_K o g)).bind (fun r => q_sem (d + 1) mX11_laying 38 [.ref 0, .int x1, .int x2, .int x3, .int x4] (r.1.toList ++ []) r.2)) := by
  refine (q_blk (Y := mX11_laying) (q_dcC dX11_laying_28 q_dcN) (show _ = some ((if q_cc .eq y0 0 = true then 41 else 31), [.ref 0, .int x1, .int x2, .int x3, .int x4], []) from rfl)).trans ?_
  by_cases c1 : y0 = 0
  · rw [if_pos (show q_cc .eq y0 0 = true from decide_eq_true c1)]
    refine Eq.trans ?_ (if_pos c1).symm
    refine (q_blk (Y := mX11_laying) (q_dcC dX11_laying_41 (q_dcC dX11_laying_42 q_dcN)) (show _ = some (43, [.ref 0, .int x1, .int x2, .int x3, .int x4], [.int 1, .ref 0]) from rfl)).trans ?_
    exact K_calV (d := d) (Y := mX11_laying) (Z := mX11_finding) (vs := [.int 1]) (rest := []) (la := [.ref 0, .int 1]) dX11_laying_43 rfl rfl rfl rfl ⟨by decide, rfl⟩ (Nat.le_of_ble_eq_true rfl) rfl (Nat.le_of_ble_eq_true rfl)
  · rw [if_neg (show ¬ q_cc .eq y0 0 = true from fun z => c1 (of_decide_eq_true z))]
    refine Eq.trans ?_ (if_neg c1).symm
    refine (q_blk (Y := mX11_laying) (q_dcC dX11_laying_31 (q_dcC dX11_laying_33 (q_dcC dX11_laying_34 q_dcN))) (show _ = some (35, [.ref 0, .int x1, .int x2, .int x3, .int x4], [.int 0, .int (-1), .int x4]) from rfl)).trans ?_
    exact K_calS (d := d) (Y := mX11_laying) (Z := mX11_within) (vs := [.int x4, .int (-1), .int 0]) (rest := []) (la := [.int x4, .int (-1), .int 0]) dX11_laying_35 rfl rfl rfl rfl (Nat.le_of_ble_eq_true rfl) rfl (Nat.le_of_ble_eq_true rfl)
theorem B_X11_laying_38 {o : q_H} (d : Nat) (x1 x2 x3 x4 y0 : Int32) (g : Nat → Nat → Int32) : q_sem (d + 1) mX11_laying 38 [.ref 0, .int x1, .int x2, .int x3, .int x4] [.int y0] (q_K o g) = (if y0 = 0 then (q_sem d mX11_finding 0 [.ref 0, .int 1] [] (q_K o g)).bind (fun r => q_sem (d + 1) mX11_laying 46 [.ref 0, .int x1, .int x2, .int x3, .int x4] (r.1.toList ++ []) r.2) else (q_sem d mX6_wanting 0 [.ref 69, .int x1] [] (q_K o g)).bind (fun r => q_sem (d + 1) mX11_laying 55 [.ref 0, .int x1, .int x2, .int x3, .int x4] (r.1.toList ++ []) r.2)) := by
  refine (q_blk (Y := mX11_laying) (q_dcC dX11_laying_38 q_dcN) (show _ = some ((if q_cc .ne y0 0 = true then 47 else 41), [.ref 0, .int x1, .int x2, .int x3, .int x4], []) from rfl)).trans ?_
  by_cases c1 : y0 = 0
  · rw [if_neg (show ¬ q_cc .ne y0 0 = true from fun z => (of_decide_eq_true z : ¬ y0 = 0) c1)]
    refine Eq.trans ?_ (if_pos c1).symm
    refine (q_blk (Y := mX11_laying) (q_dcC dX11_laying_41 (q_dcC dX11_laying_42 q_dcN)) (show _ = some (43, [.ref 0, .int x1, .int x2, .int x3, .int x4], [.int 1, .ref 0]) from rfl)).trans ?_
    exact K_calV (d := d) (Y := mX11_laying) (Z := mX11_finding) (vs := [.int 1]) (rest := []) (la := [.ref 0, .int 1]) dX11_laying_43 rfl rfl rfl rfl ⟨by decide, rfl⟩ (Nat.le_of_ble_eq_true rfl) rfl (Nat.le_of_ble_eq_true rfl)
  · rw [if_pos (show q_cc .ne y0 0 = true from decide_eq_true c1)]
    refine Eq.trans ?_ (if_neg c1).symm
    refine (q_blk (Y := mX11_laying) (q_dcC dX11_laying_47 q_dcN) (show _ = some (48, [.ref 0, .int x1, .int x2, .int x3, .int x4], [.ref 0]) from rfl)).trans ?_
    refine (k_getr (Y := mX11_laying) dX11_laying_48 rfl rfl ⟨by decide, rfl⟩ (by decide) rfl).trans ?_
    refine (q_blk (Y := mX11_laying) (q_dcC dX11_laying_51 q_dcN) (show _ = some (52, [.ref 0, .int x1, .int x2, .int x3, .int x4], [.int x1, .ref 69]) from rfl)).trans ?_
    exact K_calV (d := d) (Y := mX11_laying) (Z := mX6_wanting) (vs := [.int x1]) (rest := []) (la := [.ref 69, .int x1]) dX11_laying_52 rfl rfl rfl rfl ⟨by decide, rfl⟩ (Nat.le_of_ble_eq_true rfl) rfl (Nat.le_of_ble_eq_true rfl)
theorem B_X11_laying_55 {o : q_H} (d : Nat) (x1 x2 x3 x4 y0 : Int32) (g : Nat → Nat → Int32) : q_sem (d + 1) mX11_laying 55 [.ref 0, .int x1, .int x2, .int x3, .int x4] [.int y0] (q_K o g) = (if y0 = 0 then (q_sem d mX6_wanting 0 [.ref 69, .int x2] [] (q_K o g)).bind (fun r => q_sem (d + 1) mX11_laying 66 [.ref 0, .int x1, .int x2, .int x3, .int x4] (r.1.toList ++ []) r.2) else (q_sem d mX11_finding 0 [.ref 0, .int 2] [] (q_K o g)).bind (fun r => q_sem (d + 1) mX11_laying 74 [.ref 0, .int x1, .int x2, .int x3, .int x4] (r.1.toList ++ []) r.2)) := by
  refine (q_blk (Y := mX11_laying) (q_dcC dX11_laying_55 q_dcN) (show _ = some ((if q_cc .ne y0 0 = true then 69 else 58), [.ref 0, .int x1, .int x2, .int x3, .int x4], []) from rfl)).trans ?_
  by_cases c1 : y0 = 0
  · rw [if_neg (show ¬ q_cc .ne y0 0 = true from fun z => (of_decide_eq_true z : ¬ y0 = 0) c1)]
    refine Eq.trans ?_ (if_pos c1).symm
    refine (q_blk (Y := mX11_laying) (q_dcC dX11_laying_58 q_dcN) (show _ = some (59, [.ref 0, .int x1, .int x2, .int x3, .int x4], [.ref 0]) from rfl)).trans ?_
    refine (k_getr (Y := mX11_laying) dX11_laying_59 rfl rfl ⟨by decide, rfl⟩ (by decide) rfl).trans ?_
    refine (q_blk (Y := mX11_laying) (q_dcC dX11_laying_62 q_dcN) (show _ = some (63, [.ref 0, .int x1, .int x2, .int x3, .int x4], [.int x2, .ref 69]) from rfl)).trans ?_
    exact K_calV (d := d) (Y := mX11_laying) (Z := mX6_wanting) (vs := [.int x2]) (rest := []) (la := [.ref 69, .int x2]) dX11_laying_63 rfl rfl rfl rfl ⟨by decide, rfl⟩ (Nat.le_of_ble_eq_true rfl) rfl (Nat.le_of_ble_eq_true rfl)
  · rw [if_pos (show q_cc .ne y0 0 = true from decide_eq_true c1)]
    refine Eq.trans ?_ (if_neg c1).symm
    refine (q_blk (Y := mX11_laying) (q_dcC dX11_laying_69 (q_dcC dX11_laying_70 q_dcN)) (show _ = some (71, [.ref 0, .int x1, .int x2, .int x3, .int x4], [.int 2, .ref 0]) from rfl)).trans ?_
    exact K_calV (d := d) (Y := mX11_laying) (Z := mX11_finding) (vs := [.int 2]) (rest := []) (la := [.ref 0, .int 2]) dX11_laying_71 rfl rfl rfl rfl ⟨by decide, rfl⟩ (Nat.le_of_ble_eq_true rfl) rfl (Nat.le_of_ble_eq_true rfl)
theorem B_X11_laying_66 {o : q_H} (d : Nat) (x1 x2 x3 x4 y0 : Int32) (g : Nat → Nat → Int32) : q_sem (d + 1) mX11_laying 66 [.ref 0, .int x1, .int x2, .int x3, .int x4] [.int y0] (q_K o g) = (if y0 = 0 then (q_sem d mX0_read 0 [.ref 91, .ref 69, .int x1, .int x2, .retAddr 0, .retAddr 0, .retAddr 0, .retAddr 0, .retAddr 0] [] (q_K o g)).bind (fun r => q_sem (d + 1) mX11_laying 88 [.ref 0, .int x1, .int x2, .int x3, .int x4] (r.1.toList ++ []) r.2) else (q_sem d mX11_finding 0 [.ref 0, .int 2] [] (q_K o g)).bind (fun r => q_sem (d + 1) mX11_laying 74 [.ref 0, .int x1, .int x2, .int x3, .int x4] (r.1.toList ++ []) r.2)) := by
  refine (q_blk (Y := mX11_laying) (q_dcC dX11_laying_66 q_dcN) (show _ = some ((if q_cc .eq y0 0 = true then 75 else 69), [.ref 0, .int x1, .int x2, .int x3, .int x4], []) from rfl)).trans ?_
  by_cases c1 : y0 = 0
  · rw [if_pos (show q_cc .eq y0 0 = true from decide_eq_true c1)]
    refine Eq.trans ?_ (if_pos c1).symm
    refine (q_blk (Y := mX11_laying) (q_dcC dX11_laying_75 q_dcN) (show _ = some (76, [.ref 0, .int x1, .int x2, .int x3, .int x4], [.ref 0]) from rfl)).trans ?_
    refine (k_getr (Y := mX11_laying) dX11_laying_76 rfl rfl ⟨by decide, rfl⟩ (by decide) rfl).trans ?_
    refine (q_blk (Y := mX11_laying) (q_dcC dX11_laying_79 q_dcN) (show _ = some (80, [.ref 0, .int x1, .int x2, .int x3, .int x4], [.ref 0, .ref 91]) from rfl)).trans ?_
    refine (k_getr (Y := mX11_laying) dX11_laying_80 rfl rfl ⟨by decide, rfl⟩ (by decide) rfl).trans ?_
    refine (q_blk (Y := mX11_laying) (q_dcC dX11_laying_83 (q_dcC dX11_laying_84 q_dcN)) (show _ = some (85, [.ref 0, .int x1, .int x2, .int x3, .int x4], [.int x2, .int x1, .ref 69, .ref 91]) from rfl)).trans ?_
    exact K_calV (d := d) (Y := mX11_laying) (Z := mX0_read) (vs := [.ref 69, .int x1, .int x2]) (rest := []) (la := [.ref 91, .ref 69, .int x1, .int x2, .retAddr 0, .retAddr 0, .retAddr 0, .retAddr 0, .retAddr 0]) dX11_laying_85 rfl rfl rfl rfl ⟨by decide, rfl⟩ (Nat.le_of_ble_eq_true rfl) rfl (Nat.le_of_ble_eq_true rfl)
  · rw [if_neg (show ¬ q_cc .eq y0 0 = true from fun z => c1 (of_decide_eq_true z))]
    refine Eq.trans ?_ (if_neg c1).symm
    refine (q_blk (Y := mX11_laying) (q_dcC dX11_laying_69 (q_dcC dX11_laying_70 q_dcN)) (show _ = some (71, [.ref 0, .int x1, .int x2, .int x3, .int x4], [.int 2, .ref 0]) from rfl)).trans ?_
    exact K_calV (d := d) (Y := mX11_laying) (Z := mX11_finding) (vs := [.int 2]) (rest := []) (la := [.ref 0, .int 2]) dX11_laying_71 rfl rfl rfl rfl ⟨by decide, rfl⟩ (Nat.le_of_ble_eq_true rfl) rfl (Nat.le_of_ble_eq_true rfl)
theorem B_X11_laying_74 {o : q_H} (d : Nat) (x1 x2 x3 x4 y0 : Int32) (g : Nat → Nat → Int32) : q_sem (d) mX11_laying 74 [.ref 0, .int x1, .int x2, .int x3, .int x4] [.int y0] (q_K o g) = some (some (.int y0), q_K o g) := by
  exact k_iret (Y := mX11_laying) dX11_laying_74 rfl
theorem B_X11_laying_88 {o : q_H} (d : Nat) (x1 x2 x3 x4 y0 : Int32) (g : Nat → Nat → Int32) : q_sem (d + 1) mX11_laying 88 [.ref 0, .int x1, .int x2, .int x3, .int x4] [.int y0] (q_K o g) = (if y0 = 0 then (q_sem d mX11_finding 0 [.ref 0, .int 5] [] (q_K o g)).bind (fun r => q_sem (d + 1) mX11_laying 96 [.ref 0, .int x1, .int x2, .int x3, .int x4] (r.1.toList ++ []) r.2) else (q_sem d mX0_masts 0 [.ref 91] [] (q_K o g)).bind (fun r => q_sem (d + 1) mX11_laying 104 [.ref 0, .int x1, .int x2, .int x3, .int x4] (r.1.toList ++ []) r.2)) := by
  refine (q_blk (Y := mX11_laying) (q_dcC dX11_laying_88 q_dcN) (show _ = some ((if q_cc .ne y0 0 = true then 97 else 91), [.ref 0, .int x1, .int x2, .int x3, .int x4], []) from rfl)).trans ?_
  by_cases c1 : y0 = 0
  · rw [if_neg (show ¬ q_cc .ne y0 0 = true from fun z => (of_decide_eq_true z : ¬ y0 = 0) c1)]
    refine Eq.trans ?_ (if_pos c1).symm
    refine (q_blk (Y := mX11_laying) (q_dcC dX11_laying_91 (q_dcC dX11_laying_92 q_dcN)) (show _ = some (93, [.ref 0, .int x1, .int x2, .int x3, .int x4], [.int 5, .ref 0]) from rfl)).trans ?_
    exact K_calV (d := d) (Y := mX11_laying) (Z := mX11_finding) (vs := [.int 5]) (rest := []) (la := [.ref 0, .int 5]) dX11_laying_93 rfl rfl rfl rfl ⟨by decide, rfl⟩ (Nat.le_of_ble_eq_true rfl) rfl (Nat.le_of_ble_eq_true rfl)
  · rw [if_pos (show q_cc .ne y0 0 = true from decide_eq_true c1)]
    refine Eq.trans ?_ (if_neg c1).symm
    refine (q_blk (Y := mX11_laying) (q_dcC dX11_laying_97 q_dcN) (show _ = some (98, [.ref 0, .int x1, .int x2, .int x3, .int x4], [.ref 0]) from rfl)).trans ?_
    refine (k_getr (Y := mX11_laying) dX11_laying_98 rfl rfl ⟨by decide, rfl⟩ (by decide) rfl).trans ?_
    exact K_calV (d := d) (Y := mX11_laying) (Z := mX0_masts) (vs := []) (rest := []) (la := [.ref 91]) dX11_laying_101 rfl rfl rfl rfl ⟨by decide, rfl⟩ (Nat.le_of_ble_eq_true rfl) rfl (Nat.le_of_ble_eq_true rfl)
theorem B_X11_laying_96 {o : q_H} (d : Nat) (x1 x2 x3 x4 y0 : Int32) (g : Nat → Nat → Int32) : q_sem (d) mX11_laying 96 [.ref 0, .int x1, .int x2, .int x3, .int x4] [.int y0] (q_K o g) = some (some (.int y0), q_K o g) := by
  exact k_iret (Y := mX11_laying) dX11_laying_96 rfl
theorem B_X11_laying_104 {o : q_H} (d : Nat) (x1 x2 x3 x4 y0 : Int32) (g : Nat → Nat → Int32) : q_sem (d + 1) mX11_laying 104 [.ref 0, .int x1, .int x2, .int x3, .int x4] [.int y0] (q_K o g) = (if x3 ≤ y0 then (q_sem d mX0_choose 0 [.ref 91, .int x3, .retAddr 0] [] (q_K o g)).bind (fun r => q_sem (d + 1) mX11_laying 122 [.ref 0, .int x1, .int x2, .int x3, .int x4] (r.1.toList ++ []) r.2) else (q_sem d mX11_finding 0 [.ref 0, .int 3] [] (q_K o g)).bind (fun r => q_sem (d + 1) mX11_laying 113 [.ref 0, .int x1, .int x2, .int x3, .int x4] (r.1.toList ++ []) r.2)) := by
  refine (q_blk (Y := mX11_laying) (q_dcC dX11_laying_104 (q_dcC dX11_laying_105 q_dcN)) (show _ = some ((if q_cc .ge y0 x3 = true then 114 else 108), [.ref 0, .int x1, .int x2, .int x3, .int x4], []) from rfl)).trans ?_
  by_cases c1 : x3 ≤ y0
  · rw [if_pos (show q_cc .ge y0 x3 = true from decide_eq_true c1)]
    refine Eq.trans ?_ (if_pos c1).symm
    refine (q_blk (Y := mX11_laying) (q_dcC dX11_laying_114 q_dcN) (show _ = some (115, [.ref 0, .int x1, .int x2, .int x3, .int x4], [.ref 0]) from rfl)).trans ?_
    refine (k_getr (Y := mX11_laying) dX11_laying_115 rfl rfl ⟨by decide, rfl⟩ (by decide) rfl).trans ?_
    refine (q_blk (Y := mX11_laying) (q_dcC dX11_laying_118 q_dcN) (show _ = some (119, [.ref 0, .int x1, .int x2, .int x3, .int x4], [.int x3, .ref 91]) from rfl)).trans ?_
    exact K_calV (d := d) (Y := mX11_laying) (Z := mX0_choose) (vs := [.int x3]) (rest := []) (la := [.ref 91, .int x3, .retAddr 0]) dX11_laying_119 rfl rfl rfl rfl ⟨by decide, rfl⟩ (Nat.le_of_ble_eq_true rfl) rfl (Nat.le_of_ble_eq_true rfl)
  · rw [if_neg (show ¬ q_cc .ge y0 x3 = true from fun z => c1 (of_decide_eq_true z))]
    refine Eq.trans ?_ (if_neg c1).symm
    refine (q_blk (Y := mX11_laying) (q_dcC dX11_laying_108 (q_dcC dX11_laying_109 q_dcN)) (show _ = some (110, [.ref 0, .int x1, .int x2, .int x3, .int x4], [.int 3, .ref 0]) from rfl)).trans ?_
    exact K_calV (d := d) (Y := mX11_laying) (Z := mX11_finding) (vs := [.int 3]) (rest := []) (la := [.ref 0, .int 3]) dX11_laying_110 rfl rfl rfl rfl ⟨by decide, rfl⟩ (Nat.le_of_ble_eq_true rfl) rfl (Nat.le_of_ble_eq_true rfl)
theorem B_X11_laying_122 {o : q_H} (d : Nat) (x1 x2 x3 x4 : Int32) (g : Nat → Nat → Int32) : q_sem (d + 1) mX11_laying 122 [.ref 0, .int x1, .int x2, .int x3, .int x4] [] (q_K o g) = (if x4 = (-1) then (q_sem d mX0_best 0 [.ref 91] [] (q_K o g)).bind (fun r => q_sem (d + 1) mX11_laying 135 [.ref 0, .int x1, .int x2, .int x3, .int x4] (r.1.toList ++ []) r.2) else (q_sem d mX0_chosen 0 [.ref 91] [] (q_K o g)).bind (fun r => q_sem (d + 1) mX11_laying 145 [.ref 0, .int x1, .int x2, .int x3, .int x4] (r.1.toList ++ []) r.2)) := by
  refine (q_blk (Y := mX11_laying) (q_dcC dX11_laying_122 (q_dcC dX11_laying_124 (q_dcC dX11_laying_125 q_dcN))) (show _ = some ((if q_cc .ne x4 (-1) = true then 138 else 128), [.ref 0, .int x1, .int x2, .int x3, .int x4], []) from rfl)).trans ?_
  by_cases c1 : x4 = (-1)
  · rw [if_neg (show ¬ q_cc .ne x4 (-1) = true from fun z => (of_decide_eq_true z : ¬ x4 = (-1)) c1)]
    refine Eq.trans ?_ (if_pos c1).symm
    refine (q_blk (Y := mX11_laying) (q_dcC dX11_laying_128 q_dcN) (show _ = some (129, [.ref 0, .int x1, .int x2, .int x3, .int x4], [.ref 0]) from rfl)).trans ?_
    refine (k_getr (Y := mX11_laying) dX11_laying_129 rfl rfl ⟨by decide, rfl⟩ (by decide) rfl).trans ?_
    exact K_calV (d := d) (Y := mX11_laying) (Z := mX0_best) (vs := []) (rest := []) (la := [.ref 91]) dX11_laying_132 rfl rfl rfl rfl ⟨by decide, rfl⟩ (Nat.le_of_ble_eq_true rfl) rfl (Nat.le_of_ble_eq_true rfl)
  · rw [if_pos (show q_cc .ne x4 (-1) = true from decide_eq_true c1)]
    refine Eq.trans ?_ (if_neg c1).symm
    refine (q_blk (Y := mX11_laying) (q_dcC dX11_laying_138 q_dcN) (show _ = some (139, [.ref 0, .int x1, .int x2, .int x3, .int x4], [.ref 0]) from rfl)).trans ?_
    refine (k_getr (Y := mX11_laying) dX11_laying_139 rfl rfl ⟨by decide, rfl⟩ (by decide) rfl).trans ?_
    exact K_calV (d := d) (Y := mX11_laying) (Z := mX0_chosen) (vs := []) (rest := []) (la := [.ref 91]) dX11_laying_142 rfl rfl rfl rfl ⟨by decide, rfl⟩ (Nat.le_of_ble_eq_true rfl) rfl (Nat.le_of_ble_eq_true rfl)
theorem B_X11_laying_113 {o : q_H} (d : Nat) (x1 x2 x3 x4 y0 : Int32) (g : Nat → Nat → Int32) : q_sem (d) mX11_laying 113 [.ref 0, .int x1, .int x2, .int x3, .int x4] [.int y0] (q_K o g) = some (some (.int y0), q_K o g) := by
  exact k_iret (Y := mX11_laying) dX11_laying_113 rfl
theorem B_X11_laying_135 {o : q_H} (d : Nat) (x1 x2 x3 x4 y0 : Int32) (g : Nat → Nat → Int32) : q_sem (d) mX11_laying 135 [.ref 0, .int x1, .int x2, .int x3, .int x4] [.int y0] (q_K o g) = some (some (.int y0), q_K o g) := by
  refine (q_blk (Y := mX11_laying) (q_dcC dX11_laying_135 q_dcN) (show _ = some (145, [.ref 0, .int x1, .int x2, .int x3, .int x4], [.int y0]) from rfl)).trans ?_
  exact k_iret (Y := mX11_laying) dX11_laying_145 rfl
theorem B_X11_laying_145 {o : q_H} (d : Nat) (x1 x2 x3 x4 y0 : Int32) (g : Nat → Nat → Int32) : q_sem (d) mX11_laying 145 [.ref 0, .int x1, .int x2, .int x3, .int x4] [.int y0] (q_K o g) = some (some (.int y0), q_K o g) := by
  exact k_iret (Y := mX11_laying) dX11_laying_145 rfl
theorem B_X11_minutes_0 {o : q_H} (d : Nat) (x1 : Int32) (g : Nat → Nat → Int32) : q_sem (d + 1) mX11_minutes 0 [.ref 0, .int x1, .retAddr 0] [] (q_K o g) = (q_sem d mX11_within 0 [.int x1, .int 1, .int 200] [] (q_K o g)).bind (fun r => q_sem (d + 1) mX11_minutes 8 [.ref 0, .int x1, .retAddr 0] (r.1.toList ++ []) r.2) := by
  refine (q_blk (Y := mX11_minutes) (q_dcC dX11_minutes_0 (q_dcC dX11_minutes_1 (q_dcC dX11_minutes_2 q_dcN))) (show _ = some (5, [.ref 0, .int x1, .retAddr 0], [.int 200, .int 1, .int x1]) from rfl)).trans ?_
  exact K_calS (d := d) (Y := mX11_minutes) (Z := mX11_within) (vs := [.int x1, .int 1, .int 200]) (rest := []) (la := [.int x1, .int 1, .int 200]) dX11_minutes_5 rfl rfl rfl rfl (Nat.le_of_ble_eq_true rfl) rfl (Nat.le_of_ble_eq_true rfl)
theorem B_X11_minutes_8 {o : q_H} (d : Nat) (x1 y0 : Int32) (g : Nat → Nat → Int32) : q_sem (d + 1) mX11_minutes 8 [.ref 0, .int x1, .retAddr 0] [.int y0] (q_K o g) = (if y0 = 0 then (q_sem d mX11_finding 0 [.ref 0, .int 1] [] (q_K o g)).bind (fun r => q_sem (d + 1) mX11_minutes 31 [.ref 0, .int x1, .retAddr 0] (r.1.toList ++ []) r.2) else (if ((g 1 8) + x1) ≤ 1000 then q_sem (d + 1) mX11_minutes 34 [.ref 0, .int x1, .int 0] [] (q_K o g) else (q_sem d mX11_finding 0 [.ref 0, .int 1] [] (q_K o g)).bind (fun r => q_sem (d + 1) mX11_minutes 31 [.ref 0, .int x1, .retAddr 0] (r.1.toList ++ []) r.2))) := by
  refine (q_blk (Y := mX11_minutes) (q_dcC dX11_minutes_8 q_dcN) (show _ = some ((if q_cc .eq y0 0 = true then 26 else 11), [.ref 0, .int x1, .retAddr 0], []) from rfl)).trans ?_
  by_cases c1 : y0 = 0
  · rw [if_pos (show q_cc .eq y0 0 = true from decide_eq_true c1)]
    refine Eq.trans ?_ (if_pos c1).symm
    refine (q_blk (Y := mX11_minutes) (q_dcC dX11_minutes_26 (q_dcC dX11_minutes_27 q_dcN)) (show _ = some (28, [.ref 0, .int x1, .retAddr 0], [.int 1, .ref 0]) from rfl)).trans ?_
    exact K_calV (d := d) (Y := mX11_minutes) (Z := mX11_finding) (vs := [.int 1]) (rest := []) (la := [.ref 0, .int 1]) dX11_minutes_28 rfl rfl rfl rfl ⟨by decide, rfl⟩ (Nat.le_of_ble_eq_true rfl) rfl (Nat.le_of_ble_eq_true rfl)
  · rw [if_neg (show ¬ q_cc .eq y0 0 = true from fun z => c1 (of_decide_eq_true z))]
    refine Eq.trans ?_ (if_neg c1).symm
    refine (q_blk (Y := mX11_minutes) (q_dcC dX11_minutes_11 q_dcN) (show _ = some (12, [.ref 0, .int x1, .retAddr 0], [.ref 0]) from rfl)).trans ?_
    refine (k_getr (Y := mX11_minutes) dX11_minutes_12 rfl rfl ⟨by decide, rfl⟩ (by decide) rfl).trans ?_
    refine (k_geti (Y := mX11_minutes) dX11_minutes_15 rfl rfl ⟨by decide, rfl⟩ (by decide) rfl).trans ?_
    refine (q_blk (Y := mX11_minutes) (q_dcC dX11_minutes_18 (q_dcC dX11_minutes_19 (q_dcC dX11_minutes_20 (q_dcC dX11_minutes_23 q_dcN)))) (show _ = some ((if q_cc .le ((g 1 8) + x1) 1000 = true then 32 else 26), [.ref 0, .int x1, .retAddr 0], []) from rfl)).trans ?_
    by_cases c2 : ((g 1 8) + x1) ≤ 1000
    · rw [if_pos (show q_cc .le ((g 1 8) + x1) 1000 = true from decide_eq_true c2)]
      refine Eq.trans ?_ (if_pos c2).symm
      refine (q_blk (Y := mX11_minutes) (q_dcC dX11_minutes_32 (q_dcC dX11_minutes_33 q_dcN)) (show _ = some (34, [.ref 0, .int x1, .int 0], []) from rfl)).trans ?_
      rfl
    · rw [if_neg (show ¬ q_cc .le ((g 1 8) + x1) 1000 = true from fun z => c2 (of_decide_eq_true z))]
      refine Eq.trans ?_ (if_neg c2).symm
      refine (q_blk (Y := mX11_minutes) (q_dcC dX11_minutes_26 (q_dcC dX11_minutes_27 q_dcN)) (show _ = some (28, [.ref 0, .int x1, .retAddr 0], [.int 1, .ref 0]) from rfl)).trans ?_
      exact K_calV (d := d) (Y := mX11_minutes) (Z := mX11_finding) (vs := [.int 1]) (rest := []) (la := [.ref 0, .int 1]) dX11_minutes_28 rfl rfl rfl rfl ⟨by decide, rfl⟩ (Nat.le_of_ble_eq_true rfl) rfl (Nat.le_of_ble_eq_true rfl)
theorem B_X11_minutes_31 {o : q_H} (d : Nat) (x1 y0 : Int32) (g : Nat → Nat → Int32) : q_sem (d) mX11_minutes 31 [.ref 0, .int x1, .retAddr 0] [.int y0] (q_K o g) = some (some (.int y0), q_K o g) := by
  exact k_iret (Y := mX11_minutes) dX11_minutes_31 rfl
theorem B_X11_minutes_34 {o : q_H} (d : Nat) (x1 x2 : Int32) (g : Nat → Nat → Int32) : q_sem (d + 1) mX11_minutes 34 [.ref 0, .int x1, .int x2] [] (q_K o g) = (if x1 ≤ x2 then some (some (.int (g 1 8)), q_K o g) else (q_sem d mX2_pass 0 [.ref 1, .retAddr 0] [] (q_K o g)).bind (fun r => q_sem (d + 1) mX11_minutes 46 [.ref 0, .int x1, .int x2] (r.1.toList ++ []) r.2)) := by
  refine (q_blk (Y := mX11_minutes) (q_dcC dX11_minutes_34 (q_dcC dX11_minutes_35 (q_dcC dX11_minutes_36 q_dcN))) (show _ = some ((if q_cc .ge x2 x1 = true then 52 else 39), [.ref 0, .int x1, .int x2], []) from rfl)).trans ?_
  by_cases c1 : x1 ≤ x2
  · rw [if_pos (show q_cc .ge x2 x1 = true from decide_eq_true c1)]
    refine Eq.trans ?_ (if_pos c1).symm
    refine (q_blk (Y := mX11_minutes) (q_dcC dX11_minutes_52 q_dcN) (show _ = some (53, [.ref 0, .int x1, .int x2], [.ref 0]) from rfl)).trans ?_
    refine (k_getr (Y := mX11_minutes) dX11_minutes_53 rfl rfl ⟨by decide, rfl⟩ (by decide) rfl).trans ?_
    refine (k_geti (Y := mX11_minutes) dX11_minutes_56 rfl rfl ⟨by decide, rfl⟩ (by decide) rfl).trans ?_
    exact k_iret (Y := mX11_minutes) dX11_minutes_59 rfl
  · rw [if_neg (show ¬ q_cc .ge x2 x1 = true from fun z => c1 (of_decide_eq_true z))]
    refine Eq.trans ?_ (if_neg c1).symm
    refine (q_blk (Y := mX11_minutes) (q_dcC dX11_minutes_39 q_dcN) (show _ = some (40, [.ref 0, .int x1, .int x2], [.ref 0]) from rfl)).trans ?_
    refine (k_getr (Y := mX11_minutes) dX11_minutes_40 rfl rfl ⟨by decide, rfl⟩ (by decide) rfl).trans ?_
    exact K_calS (d := d) (Y := mX11_minutes) (Z := mX2_pass) (vs := [.ref 1]) (rest := []) (la := [.ref 1, .retAddr 0]) dX11_minutes_43 rfl rfl rfl rfl (Nat.le_of_ble_eq_true rfl) rfl (Nat.le_of_ble_eq_true rfl)
theorem B_X11_minutes_46 {o : q_H} (d : Nat) (x1 x2 : Int32) (g : Nat → Nat → Int32) : q_sem (d) mX11_minutes 46 [.ref 0, .int x1, .int x2] [] (q_K o g) = q_sem (d) mX11_minutes 34 [.ref 0, .int x1, .int (x2 + 1)] [] (q_K o g) := by
  refine (q_blk (Y := mX11_minutes) (q_dcC dX11_minutes_46 (q_dcC dX11_minutes_49 q_dcN)) (show _ = some (34, [.ref 0, .int x1, .int (x2 + 1)], []) from rfl)).trans ?_
  rfl
theorem B_X11_ahead_0 {o : q_H} (d : Nat) (x1 x2 x3 : Int32) (g : Nat → Nat → Int32) : q_sem (d + 1) mX11_ahead 0 [.ref 0, .int x1, .int x2, .int x3, .retAddr 0] [] (q_K o g) = (q_sem d mX11_within 0 [.int x1, .int 0, .int 200] [] (q_K o g)).bind (fun r => q_sem (d + 1) mX11_ahead 8 [.ref 0, .int x1, .int x2, .int x3, .retAddr 0] (r.1.toList ++ []) r.2) := by
  refine (q_blk (Y := mX11_ahead) (q_dcC dX11_ahead_0 (q_dcC dX11_ahead_1 (q_dcC dX11_ahead_2 q_dcN))) (show _ = some (5, [.ref 0, .int x1, .int x2, .int x3, .retAddr 0], [.int 200, .int 0, .int x1]) from rfl)).trans ?_
  exact K_calS (d := d) (Y := mX11_ahead) (Z := mX11_within) (vs := [.int x1, .int 0, .int 200]) (rest := []) (la := [.int x1, .int 0, .int 200]) dX11_ahead_5 rfl rfl rfl rfl (Nat.le_of_ble_eq_true rfl) rfl (Nat.le_of_ble_eq_true rfl)
theorem B_X11_ahead_8 {o : q_H} (d : Nat) (x1 x2 x3 y0 : Int32) (g : Nat → Nat → Int32) : q_sem (d + 1) mX11_ahead 8 [.ref 0, .int x1, .int x2, .int x3, .retAddr 0] [.int y0] (q_K o g) = (if y0 = 0 then (q_sem d mX11_finding 0 [.ref 0, .int 1] [] (q_K o g)).bind (fun r => q_sem (d + 1) mX11_ahead 40 [.ref 0, .int x1, .int x2, .int x3, .retAddr 0] (r.1.toList ++ []) r.2) else (if 1000 < ((g 1 8) + x1) then (q_sem d mX11_finding 0 [.ref 0, .int 1] [] (q_K o g)).bind (fun r => q_sem (d + 1) mX11_ahead 40 [.ref 0, .int x1, .int x2, .int x3, .retAddr 0] (r.1.toList ++ []) r.2) else (q_sem d mX11_within 0 [.int x2, .int 0, .int 5] [] (q_K o g)).bind (fun r => q_sem (d + 1) mX11_ahead 32 [.ref 0, .int x1, .int x2, .int x3, .retAddr 0] (r.1.toList ++ []) r.2))) := by
  refine (q_blk (Y := mX11_ahead) (q_dcC dX11_ahead_8 q_dcN) (show _ = some ((if q_cc .eq y0 0 = true then 35 else 11), [.ref 0, .int x1, .int x2, .int x3, .retAddr 0], []) from rfl)).trans ?_
  by_cases c1 : y0 = 0
  · rw [if_pos (show q_cc .eq y0 0 = true from decide_eq_true c1)]
    refine Eq.trans ?_ (if_pos c1).symm
    refine (q_blk (Y := mX11_ahead) (q_dcC dX11_ahead_35 (q_dcC dX11_ahead_36 q_dcN)) (show _ = some (37, [.ref 0, .int x1, .int x2, .int x3, .retAddr 0], [.int 1, .ref 0]) from rfl)).trans ?_
    exact K_calV (d := d) (Y := mX11_ahead) (Z := mX11_finding) (vs := [.int 1]) (rest := []) (la := [.ref 0, .int 1]) dX11_ahead_37 rfl rfl rfl rfl ⟨by decide, rfl⟩ (Nat.le_of_ble_eq_true rfl) rfl (Nat.le_of_ble_eq_true rfl)
  · rw [if_neg (show ¬ q_cc .eq y0 0 = true from fun z => c1 (of_decide_eq_true z))]
    refine Eq.trans ?_ (if_neg c1).symm
    refine (q_blk (Y := mX11_ahead) (q_dcC dX11_ahead_11 q_dcN) (show _ = some (12, [.ref 0, .int x1, .int x2, .int x3, .retAddr 0], [.ref 0]) from rfl)).trans ?_
    refine (k_getr (Y := mX11_ahead) dX11_ahead_12 rfl rfl ⟨by decide, rfl⟩ (by decide) rfl).trans ?_
    refine (k_geti (Y := mX11_ahead) dX11_ahead_15 rfl rfl ⟨by decide, rfl⟩ (by decide) rfl).trans ?_
    refine (q_blk (Y := mX11_ahead) (q_dcC dX11_ahead_18 (q_dcC dX11_ahead_19 (q_dcC dX11_ahead_20 (q_dcC dX11_ahead_23 q_dcN)))) (show _ = some ((if q_cc .gt ((g 1 8) + x1) 1000 = true then 35 else 26), [.ref 0, .int x1, .int x2, .int x3, .retAddr 0], []) from rfl)).trans ?_
    by_cases c2 : 1000 < ((g 1 8) + x1)
    · rw [if_pos (show q_cc .gt ((g 1 8) + x1) 1000 = true from decide_eq_true c2)]
      refine Eq.trans ?_ (if_pos c2).symm
      refine (q_blk (Y := mX11_ahead) (q_dcC dX11_ahead_35 (q_dcC dX11_ahead_36 q_dcN)) (show _ = some (37, [.ref 0, .int x1, .int x2, .int x3, .retAddr 0], [.int 1, .ref 0]) from rfl)).trans ?_
      exact K_calV (d := d) (Y := mX11_ahead) (Z := mX11_finding) (vs := [.int 1]) (rest := []) (la := [.ref 0, .int 1]) dX11_ahead_37 rfl rfl rfl rfl ⟨by decide, rfl⟩ (Nat.le_of_ble_eq_true rfl) rfl (Nat.le_of_ble_eq_true rfl)
    · rw [if_neg (show ¬ q_cc .gt ((g 1 8) + x1) 1000 = true from fun z => c2 (of_decide_eq_true z))]
      refine Eq.trans ?_ (if_neg c2).symm
      refine (q_blk (Y := mX11_ahead) (q_dcC dX11_ahead_26 (q_dcC dX11_ahead_27 (q_dcC dX11_ahead_28 q_dcN))) (show _ = some (29, [.ref 0, .int x1, .int x2, .int x3, .retAddr 0], [.int 5, .int 0, .int x2]) from rfl)).trans ?_
      exact K_calS (d := d) (Y := mX11_ahead) (Z := mX11_within) (vs := [.int x2, .int 0, .int 5]) (rest := []) (la := [.int x2, .int 0, .int 5]) dX11_ahead_29 rfl rfl rfl rfl (Nat.le_of_ble_eq_true rfl) rfl (Nat.le_of_ble_eq_true rfl)
theorem B_X11_ahead_40 {o : q_H} (d : Nat) (x1 x2 x3 y0 : Int32) (g : Nat → Nat → Int32) : q_sem (d) mX11_ahead 40 [.ref 0, .int x1, .int x2, .int x3, .retAddr 0] [.int y0] (q_K o g) = some (some (.int y0), q_K o g) := by
  exact k_iret (Y := mX11_ahead) dX11_ahead_40 rfl
theorem B_X11_ahead_32 {o : q_H} (d : Nat) (x1 x2 x3 y0 : Int32) (g : Nat → Nat → Int32) : q_sem (d + 1) mX11_ahead 32 [.ref 0, .int x1, .int x2, .int x3, .retAddr 0] [.int y0] (q_K o g) = (if y0 = 0 then (q_sem d mX11_finding 0 [.ref 0, .int 1] [] (q_K o g)).bind (fun r => q_sem (d + 1) mX11_ahead 40 [.ref 0, .int x1, .int x2, .int x3, .retAddr 0] (r.1.toList ++ []) r.2) else (if 4 ≤ x2 then (q_sem d mX7_has 0 [.ref 10, .int x3] [] (q_K o g)).bind (fun r => q_sem (d + 1) mX11_ahead 74 [.ref 0, .int x1, .int x2, .int x3, .retAddr 0] (r.1.toList ++ []) r.2) else (q_sem d mX7_has 0 [.ref 12, .int x3] [] (q_K o g)).bind (fun r => q_sem (d + 1) mX11_ahead 57 [.ref 0, .int x1, .int x2, .int x3, .retAddr 0] (r.1.toList ++ []) r.2))) := by
  refine (q_blk (Y := mX11_ahead) (q_dcC dX11_ahead_32 q_dcN) (show _ = some ((if q_cc .ne y0 0 = true then 41 else 35), [.ref 0, .int x1, .int x2, .int x3, .retAddr 0], []) from rfl)).trans ?_
  by_cases c1 : y0 = 0
  · rw [if_neg (show ¬ q_cc .ne y0 0 = true from fun z => (of_decide_eq_true z : ¬ y0 = 0) c1)]
    refine Eq.trans ?_ (if_pos c1).symm
    refine (q_blk (Y := mX11_ahead) (q_dcC dX11_ahead_35 (q_dcC dX11_ahead_36 q_dcN)) (show _ = some (37, [.ref 0, .int x1, .int x2, .int x3, .retAddr 0], [.int 1, .ref 0]) from rfl)).trans ?_
    exact K_calV (d := d) (Y := mX11_ahead) (Z := mX11_finding) (vs := [.int 1]) (rest := []) (la := [.ref 0, .int 1]) dX11_ahead_37 rfl rfl rfl rfl ⟨by decide, rfl⟩ (Nat.le_of_ble_eq_true rfl) rfl (Nat.le_of_ble_eq_true rfl)
  · rw [if_pos (show q_cc .ne y0 0 = true from decide_eq_true c1)]
    refine Eq.trans ?_ (if_neg c1).symm
    refine (q_blk (Y := mX11_ahead) (q_dcC dX11_ahead_41 (q_dcC dX11_ahead_42 (q_dcC dX11_ahead_43 q_dcN))) (show _ = some ((if q_cc .ge x2 4 = true then 63 else 46), [.ref 0, .int x1, .int x2, .int x3, .retAddr 0], []) from rfl)).trans ?_
    by_cases c2 : 4 ≤ x2
    · rw [if_pos (show q_cc .ge x2 4 = true from decide_eq_true c2)]
      refine Eq.trans ?_ (if_pos c2).symm
      refine (q_blk (Y := mX11_ahead) (q_dcC dX11_ahead_63 q_dcN) (show _ = some (64, [.ref 0, .int x1, .int x2, .int x3, .retAddr 0], [.ref 0]) from rfl)).trans ?_
      refine (k_getr (Y := mX11_ahead) dX11_ahead_64 rfl rfl ⟨by decide, rfl⟩ (by decide) rfl).trans ?_
      refine (k_getr (Y := mX11_ahead) dX11_ahead_67 rfl rfl ⟨by decide, rfl⟩ (by decide) rfl).trans ?_
      refine (q_blk (Y := mX11_ahead) (q_dcC dX11_ahead_70 q_dcN) (show _ = some (71, [.ref 0, .int x1, .int x2, .int x3, .retAddr 0], [.int x3, .ref 10]) from rfl)).trans ?_
      exact K_calV (d := d) (Y := mX11_ahead) (Z := mX7_has) (vs := [.int x3]) (rest := []) (la := [.ref 10, .int x3]) dX11_ahead_71 rfl rfl rfl rfl ⟨by decide, rfl⟩ (Nat.le_of_ble_eq_true rfl) rfl (Nat.le_of_ble_eq_true rfl)
    · rw [if_neg (show ¬ q_cc .ge x2 4 = true from fun z => c2 (of_decide_eq_true z))]
      refine Eq.trans ?_ (if_neg c2).symm
      refine (q_blk (Y := mX11_ahead) (q_dcC dX11_ahead_46 q_dcN) (show _ = some (47, [.ref 0, .int x1, .int x2, .int x3, .retAddr 0], [.ref 0]) from rfl)).trans ?_
      refine (k_getr (Y := mX11_ahead) dX11_ahead_47 rfl rfl ⟨by decide, rfl⟩ (by decide) rfl).trans ?_
      refine (k_getr (Y := mX11_ahead) dX11_ahead_50 rfl rfl ⟨by decide, rfl⟩ (by decide) rfl).trans ?_
      refine (q_blk (Y := mX11_ahead) (q_dcC dX11_ahead_53 q_dcN) (show _ = some (54, [.ref 0, .int x1, .int x2, .int x3, .retAddr 0], [.int x3, .ref 12]) from rfl)).trans ?_
      exact K_calV (d := d) (Y := mX11_ahead) (Z := mX7_has) (vs := [.int x3]) (rest := []) (la := [.ref 12, .int x3]) dX11_ahead_54 rfl rfl rfl rfl ⟨by decide, rfl⟩ (Nat.le_of_ble_eq_true rfl) rfl (Nat.le_of_ble_eq_true rfl)
theorem B_X11_ahead_74 {o : q_H} (d : Nat) (x1 x2 x3 y0 : Int32) (g : Nat → Nat → Int32) : q_sem (d + 1) mX11_ahead 74 [.ref 0, .int x1, .int x2, .int x3, .retAddr 0] [.int y0] (q_K o g) = (if y0 = 0 then (q_sem d mX11_finding 0 [.ref 0, .int 1] [] (q_K o g)).bind (fun r => q_sem (d + 1) mX11_ahead 82 [.ref 0, .int x1, .int x2, .int x3, .retAddr 0] (r.1.toList ++ []) r.2) else (q_sem d mX10_copyFrom 0 [.ref 45, .ref 1] [] (q_K o g)).bind (fun r => q_sem (d + 1) mX11_ahead 94 [.ref 0, .int x1, .int x2, .int x3, .retAddr 0] (r.1.toList ++ []) r.2)) := by
  refine (q_blk (Y := mX11_ahead) (q_dcC dX11_ahead_74 q_dcN) (show _ = some ((if q_cc .ne y0 0 = true then 83 else 77), [.ref 0, .int x1, .int x2, .int x3, .retAddr 0], []) from rfl)).trans ?_
  by_cases c1 : y0 = 0
  · rw [if_neg (show ¬ q_cc .ne y0 0 = true from fun z => (of_decide_eq_true z : ¬ y0 = 0) c1)]
    refine Eq.trans ?_ (if_pos c1).symm
    refine (q_blk (Y := mX11_ahead) (q_dcC dX11_ahead_77 (q_dcC dX11_ahead_78 q_dcN)) (show _ = some (79, [.ref 0, .int x1, .int x2, .int x3, .retAddr 0], [.int 1, .ref 0]) from rfl)).trans ?_
    exact K_calV (d := d) (Y := mX11_ahead) (Z := mX11_finding) (vs := [.int 1]) (rest := []) (la := [.ref 0, .int 1]) dX11_ahead_79 rfl rfl rfl rfl ⟨by decide, rfl⟩ (Nat.le_of_ble_eq_true rfl) rfl (Nat.le_of_ble_eq_true rfl)
  · rw [if_pos (show q_cc .ne y0 0 = true from decide_eq_true c1)]
    refine Eq.trans ?_ (if_neg c1).symm
    refine (q_blk (Y := mX11_ahead) (q_dcC dX11_ahead_83 q_dcN) (show _ = some (84, [.ref 0, .int x1, .int x2, .int x3, .retAddr 0], [.ref 0]) from rfl)).trans ?_
    refine (k_getr (Y := mX11_ahead) dX11_ahead_84 rfl rfl ⟨by decide, rfl⟩ (by decide) rfl).trans ?_
    refine (q_blk (Y := mX11_ahead) (q_dcC dX11_ahead_87 q_dcN) (show _ = some (88, [.ref 0, .int x1, .int x2, .int x3, .retAddr 0], [.ref 0, .ref 45]) from rfl)).trans ?_
    refine (k_getr (Y := mX11_ahead) dX11_ahead_88 rfl rfl ⟨by decide, rfl⟩ (by decide) rfl).trans ?_
    exact K_calV (d := d) (Y := mX11_ahead) (Z := mX10_copyFrom) (vs := [.ref 1]) (rest := []) (la := [.ref 45, .ref 1]) dX11_ahead_91 rfl rfl rfl rfl ⟨by decide, rfl⟩ (Nat.le_of_ble_eq_true rfl) rfl (Nat.le_of_ble_eq_true rfl)
theorem B_X11_ahead_57 {o : q_H} (d : Nat) (x1 x2 x3 y0 : Int32) (g : Nat → Nat → Int32) : q_sem (d + 1) mX11_ahead 57 [.ref 0, .int x1, .int x2, .int x3, .retAddr 0] [.int y0] (q_K o g) = (if y0 = 0 then (q_sem d mX11_finding 0 [.ref 0, .int 1] [] (q_K o g)).bind (fun r => q_sem (d + 1) mX11_ahead 82 [.ref 0, .int x1, .int x2, .int x3, .retAddr 0] (r.1.toList ++ []) r.2) else (q_sem d mX10_copyFrom 0 [.ref 45, .ref 1] [] (q_K o g)).bind (fun r => q_sem (d + 1) mX11_ahead 94 [.ref 0, .int x1, .int x2, .int x3, .retAddr 0] (r.1.toList ++ []) r.2)) := by
  refine (q_blk (Y := mX11_ahead) (q_dcC dX11_ahead_57 q_dcN) (show _ = some ((if q_cc .ne y0 0 = true then 83 else 60), [.ref 0, .int x1, .int x2, .int x3, .retAddr 0], []) from rfl)).trans ?_
  by_cases c1 : y0 = 0
  · rw [if_neg (show ¬ q_cc .ne y0 0 = true from fun z => (of_decide_eq_true z : ¬ y0 = 0) c1)]
    refine Eq.trans ?_ (if_pos c1).symm
    refine (q_blk (Y := mX11_ahead) (q_dcC dX11_ahead_60 q_dcN) (show _ = some (77, [.ref 0, .int x1, .int x2, .int x3, .retAddr 0], []) from rfl)).trans ?_
    refine (q_blk (Y := mX11_ahead) (q_dcC dX11_ahead_77 (q_dcC dX11_ahead_78 q_dcN)) (show _ = some (79, [.ref 0, .int x1, .int x2, .int x3, .retAddr 0], [.int 1, .ref 0]) from rfl)).trans ?_
    exact K_calV (d := d) (Y := mX11_ahead) (Z := mX11_finding) (vs := [.int 1]) (rest := []) (la := [.ref 0, .int 1]) dX11_ahead_79 rfl rfl rfl rfl ⟨by decide, rfl⟩ (Nat.le_of_ble_eq_true rfl) rfl (Nat.le_of_ble_eq_true rfl)
  · rw [if_pos (show q_cc .ne y0 0 = true from decide_eq_true c1)]
    refine Eq.trans ?_ (if_neg c1).symm
    refine (q_blk (Y := mX11_ahead) (q_dcC dX11_ahead_83 q_dcN) (show _ = some (84, [.ref 0, .int x1, .int x2, .int x3, .retAddr 0], [.ref 0]) from rfl)).trans ?_
    refine (k_getr (Y := mX11_ahead) dX11_ahead_84 rfl rfl ⟨by decide, rfl⟩ (by decide) rfl).trans ?_
    refine (q_blk (Y := mX11_ahead) (q_dcC dX11_ahead_87 q_dcN) (show _ = some (88, [.ref 0, .int x1, .int x2, .int x3, .retAddr 0], [.ref 0, .ref 45]) from rfl)).trans ?_
    refine (k_getr (Y := mX11_ahead) dX11_ahead_88 rfl rfl ⟨by decide, rfl⟩ (by decide) rfl).trans ?_
    exact K_calV (d := d) (Y := mX11_ahead) (Z := mX10_copyFrom) (vs := [.ref 1]) (rest := []) (la := [.ref 45, .ref 1]) dX11_ahead_91 rfl rfl rfl rfl ⟨by decide, rfl⟩ (Nat.le_of_ble_eq_true rfl) rfl (Nat.le_of_ble_eq_true rfl)
theorem B_X11_ahead_82 {o : q_H} (d : Nat) (x1 x2 x3 y0 : Int32) (g : Nat → Nat → Int32) : q_sem (d) mX11_ahead 82 [.ref 0, .int x1, .int x2, .int x3, .retAddr 0] [.int y0] (q_K o g) = some (some (.int y0), q_K o g) := by
  exact k_iret (Y := mX11_ahead) dX11_ahead_82 rfl
theorem B_X11_ahead_94 {o : q_H} (d : Nat) (x1 x2 x3 : Int32) (g : Nat → Nat → Int32) : q_sem (d) mX11_ahead 94 [.ref 0, .int x1, .int x2, .int x3, .retAddr 0] [] (q_K o g) = q_sem (d) mX11_ahead 97 [.ref 0, .int x1, .int x2, .int x3, .int 0] [] (q_K o g) := by
  refine (q_blk (Y := mX11_ahead) (q_dcC dX11_ahead_94 (q_dcC dX11_ahead_95 q_dcN)) (show _ = some (97, [.ref 0, .int x1, .int x2, .int x3, .int 0], []) from rfl)).trans ?_
  rfl
theorem B_X11_ahead_97 {o : q_H} (d : Nat) (x1 x2 x3 x4 : Int32) (g : Nat → Nat → Int32) : q_sem (d + 1) mX11_ahead 97 [.ref 0, .int x1, .int x2, .int x3, .int x4] [] (q_K o g) = (if x1 ≤ x4 then (if x2 = 0 then (q_sem d mX7_get 0 [.ref 56, .int x3, .int 1] [] (q_K o g)).bind (fun r => q_sem (d + 1) mX11_ahead 164 [.ref 0, .int x1, .int x2, .int x3, .int x4] (r.1.toList ++ []) r.2) else (if x2 = 1 then (q_sem d mX7_get 0 [.ref 56, .int x3, .int 2] [] (q_K o g)).bind (fun r => q_sem (d + 1) mX11_ahead 177 [.ref 0, .int x1, .int x2, .int x3, .int x4] (r.1.toList ++ []) r.2) else (if x2 = 2 then (q_sem d mX7_get 0 [.ref 56, .int x3, .int 5] [] (q_K o g)).bind (fun r => q_sem (d + 1) mX11_ahead 190 [.ref 0, .int x1, .int x2, .int x3, .int x4] (r.1.toList ++ []) r.2) else (if x2 = 3 then (q_sem d mX7_get 0 [.ref 56, .int x3, .int 6] [] (q_K o g)).bind (fun r => q_sem (d + 1) mX11_ahead 204 [.ref 0, .int x1, .int x2, .int x3, .int x4] (r.1.toList ++ []) r.2) else (if x2 = 4 then (q_sem d mX7_get 0 [.ref 54, .int x3, .int 2] [] (q_K o g)).bind (fun r => q_sem (d + 1) mX11_ahead 217 [.ref 0, .int x1, .int x2, .int x3, .int x4] (r.1.toList ++ []) r.2) else (q_sem d mX7_get 0 [.ref 54, .int x3, .int 3] [] (q_K o g)).bind (fun r => q_sem (d + 1) mX11_ahead 230 [.ref 0, .int x1, .int x2, .int x3, .int x4] (r.1.toList ++ []) r.2)))))) else (q_sem d mX2_pass 0 [.ref 45, .retAddr 0] [] (q_K o g)).bind (fun r => q_sem (d + 1) mX11_ahead 110 [.ref 0, .int x1, .int x2, .int x3, .int x4] (r.1.toList ++ []) r.2)) := by
  refine (q_blk (Y := mX11_ahead) (q_dcC dX11_ahead_97 (q_dcC dX11_ahead_99 (q_dcC dX11_ahead_100 q_dcN))) (show _ = some ((if q_cc .ge x4 x1 = true then 116 else 103), [.ref 0, .int x1, .int x2, .int x3, .int x4], []) from rfl)).trans ?_
  by_cases c1 : x1 ≤ x4
  · rw [if_pos (show q_cc .ge x4 x1 = true from decide_eq_true c1)]
    refine Eq.trans ?_ (if_pos c1).symm
    refine (q_blk (Y := mX11_ahead) (q_dcC dX11_ahead_116 q_dcN) (show _ = some (117, [.ref 0, .int x1, .int x2, .int x3, .int x4], [.int x2]) from rfl)).trans ?_
    by_cases c2 : x2 = 0
    · refine Eq.trans ?_ (if_pos c2).symm
      refine (k_sw (Y := mX11_ahead) (t := 152) dX11_ahead_117 rfl ⟨rfl, rfl⟩ (by rw [c2]; rfl)).trans ?_
      refine (q_blk (Y := mX11_ahead) (q_dcC dX11_ahead_152 q_dcN) (show _ = some (153, [.ref 0, .int x1, .int x2, .int x3, .int x4], [.ref 0]) from rfl)).trans ?_
      refine (k_getr (Y := mX11_ahead) dX11_ahead_153 rfl rfl ⟨by decide, rfl⟩ (by decide) rfl).trans ?_
      refine (k_getr (Y := mX11_ahead) dX11_ahead_156 rfl rfl ⟨by decide, rfl⟩ (by decide) rfl).trans ?_
      refine (q_blk (Y := mX11_ahead) (q_dcC dX11_ahead_159 (q_dcC dX11_ahead_160 q_dcN)) (show _ = some (161, [.ref 0, .int x1, .int x2, .int x3, .int x4], [.int 1, .int x3, .ref 56]) from rfl)).trans ?_
      exact K_calV (d := d) (Y := mX11_ahead) (Z := mX7_get) (vs := [.int x3, .int 1]) (rest := []) (la := [.ref 56, .int x3, .int 1]) dX11_ahead_161 rfl rfl rfl rfl ⟨by decide, rfl⟩ (Nat.le_of_ble_eq_true rfl) rfl (Nat.le_of_ble_eq_true rfl)
    refine Eq.trans ?_ (if_neg c2).symm
    by_cases c3 : x2 = 1
    · refine Eq.trans ?_ (if_pos c3).symm
      refine (k_sw (Y := mX11_ahead) (t := 165) dX11_ahead_117 rfl ⟨rfl, rfl⟩ (by rw [c3]; rfl)).trans ?_
      refine (q_blk (Y := mX11_ahead) (q_dcC dX11_ahead_165 q_dcN) (show _ = some (166, [.ref 0, .int x1, .int x2, .int x3, .int x4], [.ref 0]) from rfl)).trans ?_
      refine (k_getr (Y := mX11_ahead) dX11_ahead_166 rfl rfl ⟨by decide, rfl⟩ (by decide) rfl).trans ?_
      refine (k_getr (Y := mX11_ahead) dX11_ahead_169 rfl rfl ⟨by decide, rfl⟩ (by decide) rfl).trans ?_
      refine (q_blk (Y := mX11_ahead) (q_dcC dX11_ahead_172 (q_dcC dX11_ahead_173 q_dcN)) (show _ = some (174, [.ref 0, .int x1, .int x2, .int x3, .int x4], [.int 2, .int x3, .ref 56]) from rfl)).trans ?_
      exact K_calV (d := d) (Y := mX11_ahead) (Z := mX7_get) (vs := [.int x3, .int 2]) (rest := []) (la := [.ref 56, .int x3, .int 2]) dX11_ahead_174 rfl rfl rfl rfl ⟨by decide, rfl⟩ (Nat.le_of_ble_eq_true rfl) rfl (Nat.le_of_ble_eq_true rfl)
    refine Eq.trans ?_ (if_neg c3).symm
    by_cases c4 : x2 = 2
    · refine Eq.trans ?_ (if_pos c4).symm
      refine (k_sw (Y := mX11_ahead) (t := 178) dX11_ahead_117 rfl ⟨rfl, rfl⟩ (by rw [c4]; rfl)).trans ?_
      refine (q_blk (Y := mX11_ahead) (q_dcC dX11_ahead_178 q_dcN) (show _ = some (179, [.ref 0, .int x1, .int x2, .int x3, .int x4], [.ref 0]) from rfl)).trans ?_
      refine (k_getr (Y := mX11_ahead) dX11_ahead_179 rfl rfl ⟨by decide, rfl⟩ (by decide) rfl).trans ?_
      refine (k_getr (Y := mX11_ahead) dX11_ahead_182 rfl rfl ⟨by decide, rfl⟩ (by decide) rfl).trans ?_
      refine (q_blk (Y := mX11_ahead) (q_dcC dX11_ahead_185 (q_dcC dX11_ahead_186 q_dcN)) (show _ = some (187, [.ref 0, .int x1, .int x2, .int x3, .int x4], [.int 5, .int x3, .ref 56]) from rfl)).trans ?_
      exact K_calV (d := d) (Y := mX11_ahead) (Z := mX7_get) (vs := [.int x3, .int 5]) (rest := []) (la := [.ref 56, .int x3, .int 5]) dX11_ahead_187 rfl rfl rfl rfl ⟨by decide, rfl⟩ (Nat.le_of_ble_eq_true rfl) rfl (Nat.le_of_ble_eq_true rfl)
    refine Eq.trans ?_ (if_neg c4).symm
    by_cases c5 : x2 = 3
    · refine Eq.trans ?_ (if_pos c5).symm
      refine (k_sw (Y := mX11_ahead) (t := 191) dX11_ahead_117 rfl ⟨rfl, rfl⟩ (by rw [c5]; rfl)).trans ?_
      refine (q_blk (Y := mX11_ahead) (q_dcC dX11_ahead_191 q_dcN) (show _ = some (192, [.ref 0, .int x1, .int x2, .int x3, .int x4], [.ref 0]) from rfl)).trans ?_
      refine (k_getr (Y := mX11_ahead) dX11_ahead_192 rfl rfl ⟨by decide, rfl⟩ (by decide) rfl).trans ?_
      refine (k_getr (Y := mX11_ahead) dX11_ahead_195 rfl rfl ⟨by decide, rfl⟩ (by decide) rfl).trans ?_
      refine (q_blk (Y := mX11_ahead) (q_dcC dX11_ahead_198 (q_dcC dX11_ahead_199 q_dcN)) (show _ = some (201, [.ref 0, .int x1, .int x2, .int x3, .int x4], [.int 6, .int x3, .ref 56]) from rfl)).trans ?_
      exact K_calV (d := d) (Y := mX11_ahead) (Z := mX7_get) (vs := [.int x3, .int 6]) (rest := []) (la := [.ref 56, .int x3, .int 6]) dX11_ahead_201 rfl rfl rfl rfl ⟨by decide, rfl⟩ (Nat.le_of_ble_eq_true rfl) rfl (Nat.le_of_ble_eq_true rfl)
    refine Eq.trans ?_ (if_neg c5).symm
    by_cases c6 : x2 = 4
    · refine Eq.trans ?_ (if_pos c6).symm
      refine (k_sw (Y := mX11_ahead) (t := 205) dX11_ahead_117 rfl ⟨rfl, rfl⟩ (by rw [c6]; rfl)).trans ?_
      refine (q_blk (Y := mX11_ahead) (q_dcC dX11_ahead_205 q_dcN) (show _ = some (206, [.ref 0, .int x1, .int x2, .int x3, .int x4], [.ref 0]) from rfl)).trans ?_
      refine (k_getr (Y := mX11_ahead) dX11_ahead_206 rfl rfl ⟨by decide, rfl⟩ (by decide) rfl).trans ?_
      refine (k_getr (Y := mX11_ahead) dX11_ahead_209 rfl rfl ⟨by decide, rfl⟩ (by decide) rfl).trans ?_
      refine (q_blk (Y := mX11_ahead) (q_dcC dX11_ahead_212 (q_dcC dX11_ahead_213 q_dcN)) (show _ = some (214, [.ref 0, .int x1, .int x2, .int x3, .int x4], [.int 2, .int x3, .ref 54]) from rfl)).trans ?_
      exact K_calV (d := d) (Y := mX11_ahead) (Z := mX7_get) (vs := [.int x3, .int 2]) (rest := []) (la := [.ref 54, .int x3, .int 2]) dX11_ahead_214 rfl rfl rfl rfl ⟨by decide, rfl⟩ (Nat.le_of_ble_eq_true rfl) rfl (Nat.le_of_ble_eq_true rfl)
    refine Eq.trans ?_ (if_neg c6).symm
    refine (k_swD (Y := mX11_ahead) (t := 218) dX11_ahead_117 (q_tso (x2) 0 5 (fun k hk => by rcases k with _ | _ | _ | _ | _ | k; exact c2; exact c3; exact c4; exact c5; exact c6; exact absurd hk (by omega))) rfl).trans ?_
    refine (q_blk (Y := mX11_ahead) (q_dcC dX11_ahead_218 q_dcN) (show _ = some (219, [.ref 0, .int x1, .int x2, .int x3, .int x4], [.ref 0]) from rfl)).trans ?_
    refine (k_getr (Y := mX11_ahead) dX11_ahead_219 rfl rfl ⟨by decide, rfl⟩ (by decide) rfl).trans ?_
    refine (k_getr (Y := mX11_ahead) dX11_ahead_222 rfl rfl ⟨by decide, rfl⟩ (by decide) rfl).trans ?_
    refine (q_blk (Y := mX11_ahead) (q_dcC dX11_ahead_225 (q_dcC dX11_ahead_226 q_dcN)) (show _ = some (227, [.ref 0, .int x1, .int x2, .int x3, .int x4], [.int 3, .int x3, .ref 54]) from rfl)).trans ?_
    exact K_calV (d := d) (Y := mX11_ahead) (Z := mX7_get) (vs := [.int x3, .int 3]) (rest := []) (la := [.ref 54, .int x3, .int 3]) dX11_ahead_227 rfl rfl rfl rfl ⟨by decide, rfl⟩ (Nat.le_of_ble_eq_true rfl) rfl (Nat.le_of_ble_eq_true rfl)
  · rw [if_neg (show ¬ q_cc .ge x4 x1 = true from fun z => c1 (of_decide_eq_true z))]
    refine Eq.trans ?_ (if_neg c1).symm
    refine (q_blk (Y := mX11_ahead) (q_dcC dX11_ahead_103 q_dcN) (show _ = some (104, [.ref 0, .int x1, .int x2, .int x3, .int x4], [.ref 0]) from rfl)).trans ?_
    refine (k_getr (Y := mX11_ahead) dX11_ahead_104 rfl rfl ⟨by decide, rfl⟩ (by decide) rfl).trans ?_
    exact K_calS (d := d) (Y := mX11_ahead) (Z := mX2_pass) (vs := [.ref 45]) (rest := []) (la := [.ref 45, .retAddr 0]) dX11_ahead_107 rfl rfl rfl rfl (Nat.le_of_ble_eq_true rfl) rfl (Nat.le_of_ble_eq_true rfl)
theorem B_X11_ahead_164 {o : q_H} (d : Nat) (x1 x2 x3 x4 y0 : Int32) (g : Nat → Nat → Int32) : q_sem (d) mX11_ahead 164 [.ref 0, .int x1, .int x2, .int x3, .int x4] [.int y0] (q_K o g) = some (some (.int y0), q_K o g) := by
  exact k_iret (Y := mX11_ahead) dX11_ahead_164 rfl
theorem B_X11_ahead_177 {o : q_H} (d : Nat) (x1 x2 x3 x4 y0 : Int32) (g : Nat → Nat → Int32) : q_sem (d) mX11_ahead 177 [.ref 0, .int x1, .int x2, .int x3, .int x4] [.int y0] (q_K o g) = some (some (.int y0), q_K o g) := by
  exact k_iret (Y := mX11_ahead) dX11_ahead_177 rfl
theorem B_X11_ahead_190 {o : q_H} (d : Nat) (x1 x2 x3 x4 y0 : Int32) (g : Nat → Nat → Int32) : q_sem (d) mX11_ahead 190 [.ref 0, .int x1, .int x2, .int x3, .int x4] [.int y0] (q_K o g) = some (some (.int y0), q_K o g) := by
  exact k_iret (Y := mX11_ahead) dX11_ahead_190 rfl
theorem B_X11_ahead_204 {o : q_H} (d : Nat) (x1 x2 x3 x4 y0 : Int32) (g : Nat → Nat → Int32) : q_sem (d) mX11_ahead 204 [.ref 0, .int x1, .int x2, .int x3, .int x4] [.int y0] (q_K o g) = some (some (.int y0), q_K o g) := by
  exact k_iret (Y := mX11_ahead) dX11_ahead_204 rfl
theorem B_X11_ahead_217 {o : q_H} (d : Nat) (x1 x2 x3 x4 y0 : Int32) (g : Nat → Nat → Int32) : q_sem (d) mX11_ahead 217 [.ref 0, .int x1, .int x2, .int x3, .int x4] [.int y0] (q_K o g) = some (some (.int y0), q_K o g) := by
  exact k_iret (Y := mX11_ahead) dX11_ahead_217 rfl
theorem B_X11_ahead_230 {o : q_H} (d : Nat) (x1 x2 x3 x4 y0 : Int32) (g : Nat → Nat → Int32) : q_sem (d) mX11_ahead 230 [.ref 0, .int x1, .int x2, .int x3, .int x4] [.int y0] (q_K o g) = some (some (.int y0), q_K o g) := by
  exact k_iret (Y := mX11_ahead) dX11_ahead_230 rfl
theorem B_X11_ahead_110 {o : q_H} (d : Nat) (x1 x2 x3 x4 : Int32) (g : Nat → Nat → Int32) : q_sem (d) mX11_ahead 110 [.ref 0, .int x1, .int x2, .int x3, .int x4] [] (q_K o g) = q_sem (d) mX11_ahead 97 [.ref 0, .int x1, .int x2, .int x3, .int (x4 + 1)] [] (q_K o g) := by
  refine (q_blk (Y := mX11_ahead) (q_dcC dX11_ahead_110 (q_dcC dX11_ahead_113 q_dcN)) (show _ = some (97, [.ref 0, .int x1, .int x2, .int x3, .int (x4 + 1)], []) from rfl)).trans ?_
  rfl
theorem B_X11_voice_0 {o : q_H} (d : Nat) (x1 x2 x3 : Int32) (g : Nat → Nat → Int32) : q_sem (d + 1) mX11_voice 0 [.ref 0, .int x1, .int x2, .int x3] [] (q_K o g) = (q_sem d mX7_has 0 [.ref 12, .int x1] [] (q_K o g)).bind (fun r => q_sem (d + 1) mX11_voice 11 [.ref 0, .int x1, .int x2, .int x3] (r.1.toList ++ []) r.2) := by
  refine (q_blk (Y := mX11_voice) (q_dcC dX11_voice_0 q_dcN) (show _ = some (1, [.ref 0, .int x1, .int x2, .int x3], [.ref 0]) from rfl)).trans ?_
  refine (k_getr (Y := mX11_voice) dX11_voice_1 rfl rfl ⟨by decide, rfl⟩ (by decide) rfl).trans ?_
  refine (k_getr (Y := mX11_voice) dX11_voice_4 rfl rfl ⟨by decide, rfl⟩ (by decide) rfl).trans ?_
  refine (q_blk (Y := mX11_voice) (q_dcC dX11_voice_7 q_dcN) (show _ = some (8, [.ref 0, .int x1, .int x2, .int x3], [.int x1, .ref 12]) from rfl)).trans ?_
  exact K_calV (d := d) (Y := mX11_voice) (Z := mX7_has) (vs := [.int x1]) (rest := []) (la := [.ref 12, .int x1]) dX11_voice_8 rfl rfl rfl rfl ⟨by decide, rfl⟩ (Nat.le_of_ble_eq_true rfl) rfl (Nat.le_of_ble_eq_true rfl)
theorem B_X11_voice_11 {o : q_H} (d : Nat) (x1 x2 x3 y0 : Int32) (g : Nat → Nat → Int32) : q_sem (d + 1) mX11_voice 11 [.ref 0, .int x1, .int x2, .int x3] [.int y0] (q_K o g) = (if y0 = 0 then (q_sem d mX11_finding 0 [.ref 0, .int 1] [] (q_K o g)).bind (fun r => q_sem (d + 1) mX11_voice 28 [.ref 0, .int x1, .int x2, .int x3] (r.1.toList ++ []) r.2) else (q_sem d mX11_within 0 [.int x2, .int 0, .int 3] [] (q_K o g)).bind (fun r => q_sem (d + 1) mX11_voice 20 [.ref 0, .int x1, .int x2, .int x3] (r.1.toList ++ []) r.2)) := by
  refine (q_blk (Y := mX11_voice) (q_dcC dX11_voice_11 q_dcN) (show _ = some ((if q_cc .eq y0 0 = true then 23 else 14), [.ref 0, .int x1, .int x2, .int x3], []) from rfl)).trans ?_
  by_cases c1 : y0 = 0
  · rw [if_pos (show q_cc .eq y0 0 = true from decide_eq_true c1)]
    refine Eq.trans ?_ (if_pos c1).symm
    refine (q_blk (Y := mX11_voice) (q_dcC dX11_voice_23 (q_dcC dX11_voice_24 q_dcN)) (show _ = some (25, [.ref 0, .int x1, .int x2, .int x3], [.int 1, .ref 0]) from rfl)).trans ?_
    exact K_calV (d := d) (Y := mX11_voice) (Z := mX11_finding) (vs := [.int 1]) (rest := []) (la := [.ref 0, .int 1]) dX11_voice_25 rfl rfl rfl rfl ⟨by decide, rfl⟩ (Nat.le_of_ble_eq_true rfl) rfl (Nat.le_of_ble_eq_true rfl)
  · rw [if_neg (show ¬ q_cc .eq y0 0 = true from fun z => c1 (of_decide_eq_true z))]
    refine Eq.trans ?_ (if_neg c1).symm
    refine (q_blk (Y := mX11_voice) (q_dcC dX11_voice_14 (q_dcC dX11_voice_15 (q_dcC dX11_voice_16 q_dcN))) (show _ = some (17, [.ref 0, .int x1, .int x2, .int x3], [.int 3, .int 0, .int x2]) from rfl)).trans ?_
    exact K_calS (d := d) (Y := mX11_voice) (Z := mX11_within) (vs := [.int x2, .int 0, .int 3]) (rest := []) (la := [.int x2, .int 0, .int 3]) dX11_voice_17 rfl rfl rfl rfl (Nat.le_of_ble_eq_true rfl) rfl (Nat.le_of_ble_eq_true rfl)
theorem B_X11_voice_28 {o : q_H} (d : Nat) (x1 x2 x3 y0 : Int32) (g : Nat → Nat → Int32) : q_sem (d) mX11_voice 28 [.ref 0, .int x1, .int x2, .int x3] [.int y0] (q_K o g) = some (some (.int y0), q_K o g) := by
  exact k_iret (Y := mX11_voice) dX11_voice_28 rfl
theorem B_X11_voice_20 {o : q_H} (d : Nat) (x1 x2 x3 y0 : Int32) (g : Nat → Nat → Int32) : q_sem (d + 1) mX11_voice 20 [.ref 0, .int x1, .int x2, .int x3] [.int y0] (q_K o g) = (if y0 = 0 then (q_sem d mX11_finding 0 [.ref 0, .int 1] [] (q_K o g)).bind (fun r => q_sem (d + 1) mX11_voice 28 [.ref 0, .int x1, .int x2, .int x3] (r.1.toList ++ []) r.2) else (q_sem d mX7_get 0 [.ref 12, .int x1, .int 0] [] (q_K o g)).bind (fun r => q_sem (d + 1) mX11_voice 45 [.ref 0, .int x1, .int x2, .int x3] (r.1.toList ++ [.ref 94]) r.2)) := by
  refine (q_blk (Y := mX11_voice) (q_dcC dX11_voice_20 q_dcN) (show _ = some ((if q_cc .ne y0 0 = true then 29 else 23), [.ref 0, .int x1, .int x2, .int x3], []) from rfl)).trans ?_
  by_cases c1 : y0 = 0
  · rw [if_neg (show ¬ q_cc .ne y0 0 = true from fun z => (of_decide_eq_true z : ¬ y0 = 0) c1)]
    refine Eq.trans ?_ (if_pos c1).symm
    refine (q_blk (Y := mX11_voice) (q_dcC dX11_voice_23 (q_dcC dX11_voice_24 q_dcN)) (show _ = some (25, [.ref 0, .int x1, .int x2, .int x3], [.int 1, .ref 0]) from rfl)).trans ?_
    exact K_calV (d := d) (Y := mX11_voice) (Z := mX11_finding) (vs := [.int 1]) (rest := []) (la := [.ref 0, .int 1]) dX11_voice_25 rfl rfl rfl rfl ⟨by decide, rfl⟩ (Nat.le_of_ble_eq_true rfl) rfl (Nat.le_of_ble_eq_true rfl)
  · rw [if_pos (show q_cc .ne y0 0 = true from decide_eq_true c1)]
    refine Eq.trans ?_ (if_neg c1).symm
    refine (q_blk (Y := mX11_voice) (q_dcC dX11_voice_29 q_dcN) (show _ = some (30, [.ref 0, .int x1, .int x2, .int x3], [.ref 0]) from rfl)).trans ?_
    refine (k_getr (Y := mX11_voice) dX11_voice_30 rfl rfl ⟨by decide, rfl⟩ (by decide) rfl).trans ?_
    refine (q_blk (Y := mX11_voice) (q_dcC dX11_voice_33 q_dcN) (show _ = some (34, [.ref 0, .int x1, .int x2, .int x3], [.ref 0, .ref 94]) from rfl)).trans ?_
    refine (k_getr (Y := mX11_voice) dX11_voice_34 rfl rfl ⟨by decide, rfl⟩ (by decide) rfl).trans ?_
    refine (k_getr (Y := mX11_voice) dX11_voice_37 rfl rfl ⟨by decide, rfl⟩ (by decide) rfl).trans ?_
    refine (q_blk (Y := mX11_voice) (q_dcC dX11_voice_40 (q_dcC dX11_voice_41 q_dcN)) (show _ = some (42, [.ref 0, .int x1, .int x2, .int x3], [.int 0, .int x1, .ref 12, .ref 94]) from rfl)).trans ?_
    exact K_calV (d := d) (Y := mX11_voice) (Z := mX7_get) (vs := [.int x1, .int 0]) (rest := [.ref 94]) (la := [.ref 12, .int x1, .int 0]) dX11_voice_42 rfl rfl rfl rfl ⟨by decide, rfl⟩ (Nat.le_of_ble_eq_true rfl) rfl (Nat.le_of_ble_eq_true rfl)
theorem B_X11_voice_45 {o : q_H} (d : Nat) (x1 x2 x3 y0 : Int32) (g : Nat → Nat → Int32) : q_sem (d + 1) mX11_voice 45 [.ref 0, .int x1, .int x2, .int x3] [.int y0, .ref 94] (q_K o g) = (q_sem d mX7_get 0 [.ref 12, .int x1, .int 5] [] (q_K o g)).bind (fun r => q_sem (d + 1) mX11_voice 58 [.ref 0, .int x1, .int x2, .int x3] (r.1.toList ++ [.int x1, .int y0, .ref 94]) r.2) := by
  refine (q_blk (Y := mX11_voice) (q_dcC dX11_voice_45 (q_dcC dX11_voice_46 q_dcN)) (show _ = some (47, [.ref 0, .int x1, .int x2, .int x3], [.ref 0, .int x1, .int y0, .ref 94]) from rfl)).trans ?_
  refine (k_getr (Y := mX11_voice) dX11_voice_47 rfl rfl ⟨by decide, rfl⟩ (by decide) rfl).trans ?_
  refine (k_getr (Y := mX11_voice) dX11_voice_50 rfl rfl ⟨by decide, rfl⟩ (by decide) rfl).trans ?_
  refine (q_blk (Y := mX11_voice) (q_dcC dX11_voice_53 (q_dcC dX11_voice_54 q_dcN)) (show _ = some (55, [.ref 0, .int x1, .int x2, .int x3], [.int 5, .int x1, .ref 12, .int x1, .int y0, .ref 94]) from rfl)).trans ?_
  exact K_calV (d := d) (Y := mX11_voice) (Z := mX7_get) (vs := [.int x1, .int 5]) (rest := [.int x1, .int y0, .ref 94]) (la := [.ref 12, .int x1, .int 5]) dX11_voice_55 rfl rfl rfl rfl ⟨by decide, rfl⟩ (Nat.le_of_ble_eq_true rfl) rfl (Nat.le_of_ble_eq_true rfl)
theorem B_X11_voice_58 {o : q_H} (d : Nat) (x1 x2 x3 y0 y1 y2 : Int32) (g : Nat → Nat → Int32) : q_sem (d + 1) mX11_voice 58 [.ref 0, .int x1, .int x2, .int x3] [.int y0, .int y1, .int y2, .ref 94] (q_K o g) = (q_sem d mX9_begin 0 [.ref 94, .int y2, .int y1, .int y0] [] (q_K o g)).bind (fun r => q_sem (d + 1) mX11_voice 61 [.ref 0, .int x1, .int x2, .int x3] (r.1.toList ++ []) r.2) := by
  exact K_calV (d := d) (Y := mX11_voice) (Z := mX9_begin) (vs := [.int y2, .int y1, .int y0]) (rest := []) (la := [.ref 94, .int y2, .int y1, .int y0]) dX11_voice_58 rfl rfl rfl rfl ⟨by decide, rfl⟩ (Nat.le_of_ble_eq_true rfl) rfl (Nat.le_of_ble_eq_true rfl)
theorem B_X11_voice_61 {o : q_H} (d : Nat) (x1 x2 x3 : Int32) (g : Nat → Nat → Int32) : q_sem (d + 1) mX11_voice 61 [.ref 0, .int x1, .int x2, .int x3] [] (q_K o g) = (q_sem d mX9_utter 0 [.ref 94, .int x2, .int x3] [] (q_K o g)).bind (fun r => q_sem (d + 1) mX11_voice 70 [.ref 0, .int x1, .int x2, .int x3] (r.1.toList ++ []) r.2) := by
  refine (q_blk (Y := mX11_voice) (q_dcC dX11_voice_61 q_dcN) (show _ = some (62, [.ref 0, .int x1, .int x2, .int x3], [.ref 0]) from rfl)).trans ?_
  refine (k_getr (Y := mX11_voice) dX11_voice_62 rfl rfl ⟨by decide, rfl⟩ (by decide) rfl).trans ?_
  refine (q_blk (Y := mX11_voice) (q_dcC dX11_voice_65 (q_dcC dX11_voice_66 q_dcN)) (show _ = some (67, [.ref 0, .int x1, .int x2, .int x3], [.int x3, .int x2, .ref 94]) from rfl)).trans ?_
  exact K_calV (d := d) (Y := mX11_voice) (Z := mX9_utter) (vs := [.int x2, .int x3]) (rest := []) (la := [.ref 94, .int x2, .int x3]) dX11_voice_67 rfl rfl rfl rfl ⟨by decide, rfl⟩ (Nat.le_of_ble_eq_true rfl) rfl (Nat.le_of_ble_eq_true rfl)
theorem B_X11_voice_70 {o : q_H} (d : Nat) (x1 x2 x3 y0 : Int32) (g : Nat → Nat → Int32) : q_sem (d) mX11_voice 70 [.ref 0, .int x1, .int x2, .int x3] [.int y0] (q_K o g) = some (some (.int y0), q_K o g) := by
  exact k_iret (Y := mX11_voice) dX11_voice_70 rfl
theorem B_X11_trace_0 {o : q_H} (d : Nat) (x1 : Int32) (g : Nat → Nat → Int32) : q_sem (d + 1) mX11_trace 0 [.ref 0, .int x1] [] (q_K o g) = (q_sem d mX7_has 0 [.ref 95, .int x1] [] (q_K o g)).bind (fun r => q_sem (d + 1) mX11_trace 11 [.ref 0, .int x1] (r.1.toList ++ []) r.2) := by
  refine (q_blk (Y := mX11_trace) (q_dcC dX11_trace_0 q_dcN) (show _ = some (1, [.ref 0, .int x1], [.ref 0]) from rfl)).trans ?_
  refine (k_getr (Y := mX11_trace) dX11_trace_1 rfl rfl ⟨by decide, rfl⟩ (by decide) rfl).trans ?_
  refine (k_getr (Y := mX11_trace) dX11_trace_4 rfl rfl ⟨by decide, rfl⟩ (by decide) rfl).trans ?_
  refine (q_blk (Y := mX11_trace) (q_dcC dX11_trace_7 q_dcN) (show _ = some (8, [.ref 0, .int x1], [.int x1, .ref 95]) from rfl)).trans ?_
  exact K_calV (d := d) (Y := mX11_trace) (Z := mX7_has) (vs := [.int x1]) (rest := []) (la := [.ref 95, .int x1]) dX11_trace_8 rfl rfl rfl rfl ⟨by decide, rfl⟩ (Nat.le_of_ble_eq_true rfl) rfl (Nat.le_of_ble_eq_true rfl)
theorem B_X11_trace_11 {o : q_H} (d : Nat) (x1 y0 : Int32) (g : Nat → Nat → Int32) : q_sem (d + 1) mX11_trace 11 [.ref 0, .int x1] [.int y0] (q_K o g) = (if y0 = 0 then (q_sem d mX11_finding 0 [.ref 0, .int 2] [] (q_K o g)).bind (fun r => q_sem (d + 1) mX11_trace 34 [.ref 0, .int x1] (r.1.toList ++ []) r.2) else (q_sem d mX7_get 0 [.ref 95, .int x1, .int 0] [] (q_K o g)).bind (fun r => q_sem (d + 1) mX11_trace 26 [.ref 0, .int x1] (r.1.toList ++ []) r.2)) := by
  refine (q_blk (Y := mX11_trace) (q_dcC dX11_trace_11 q_dcN) (show _ = some ((if q_cc .eq y0 0 = true then 29 else 14), [.ref 0, .int x1], []) from rfl)).trans ?_
  by_cases c1 : y0 = 0
  · rw [if_pos (show q_cc .eq y0 0 = true from decide_eq_true c1)]
    refine Eq.trans ?_ (if_pos c1).symm
    refine (q_blk (Y := mX11_trace) (q_dcC dX11_trace_29 (q_dcC dX11_trace_30 q_dcN)) (show _ = some (31, [.ref 0, .int x1], [.int 2, .ref 0]) from rfl)).trans ?_
    exact K_calV (d := d) (Y := mX11_trace) (Z := mX11_finding) (vs := [.int 2]) (rest := []) (la := [.ref 0, .int 2]) dX11_trace_31 rfl rfl rfl rfl ⟨by decide, rfl⟩ (Nat.le_of_ble_eq_true rfl) rfl (Nat.le_of_ble_eq_true rfl)
  · rw [if_neg (show ¬ q_cc .eq y0 0 = true from fun z => c1 (of_decide_eq_true z))]
    refine Eq.trans ?_ (if_neg c1).symm
    refine (q_blk (Y := mX11_trace) (q_dcC dX11_trace_14 q_dcN) (show _ = some (15, [.ref 0, .int x1], [.ref 0]) from rfl)).trans ?_
    refine (k_getr (Y := mX11_trace) dX11_trace_15 rfl rfl ⟨by decide, rfl⟩ (by decide) rfl).trans ?_
    refine (k_getr (Y := mX11_trace) dX11_trace_18 rfl rfl ⟨by decide, rfl⟩ (by decide) rfl).trans ?_
    refine (q_blk (Y := mX11_trace) (q_dcC dX11_trace_21 (q_dcC dX11_trace_22 q_dcN)) (show _ = some (23, [.ref 0, .int x1], [.int 0, .int x1, .ref 95]) from rfl)).trans ?_
    exact K_calV (d := d) (Y := mX11_trace) (Z := mX7_get) (vs := [.int x1, .int 0]) (rest := []) (la := [.ref 95, .int x1, .int 0]) dX11_trace_23 rfl rfl rfl rfl ⟨by decide, rfl⟩ (Nat.le_of_ble_eq_true rfl) rfl (Nat.le_of_ble_eq_true rfl)
theorem B_X11_trace_34 {o : q_H} (d : Nat) (x1 y0 : Int32) (g : Nat → Nat → Int32) : q_sem (d) mX11_trace 34 [.ref 0, .int x1] [.int y0] (q_K o g) = some (some (.int y0), q_K o g) := by
  exact k_iret (Y := mX11_trace) dX11_trace_34 rfl
theorem B_X11_trace_26 {o : q_H} (d : Nat) (x1 y0 : Int32) (g : Nat → Nat → Int32) : q_sem (d) mX11_trace 26 [.ref 0, .int x1] [.int y0] (q_K o g) = some (some (.int y0), q_K o g) := by
  refine (q_blk (Y := mX11_trace) (q_dcC dX11_trace_26 q_dcN) (show _ = some (34, [.ref 0, .int x1], [.int y0]) from rfl)).trans ?_
  exact k_iret (Y := mX11_trace) dX11_trace_34 rfl
theorem B_X11_sheet_0 {o : q_H} (d : Nat) (x1 x2 x3 : Int32) (g : Nat → Nat → Int32) : q_sem (d + 1) mX11_sheet 0 [.ref 0, .int x1, .int x2, .int x3] [] (q_K o g) = (q_sem d mX6_has 0 [.ref 69, .int x1] [] (q_K o g)).bind (fun r => q_sem (d + 1) mX11_sheet 8 [.ref 0, .int x1, .int x2, .int x3] (r.1.toList ++ []) r.2) := by
  refine (q_blk (Y := mX11_sheet) (q_dcC dX11_sheet_0 q_dcN) (show _ = some (1, [.ref 0, .int x1, .int x2, .int x3], [.ref 0]) from rfl)).trans ?_
  refine (k_getr (Y := mX11_sheet) dX11_sheet_1 rfl rfl ⟨by decide, rfl⟩ (by decide) rfl).trans ?_
  refine (q_blk (Y := mX11_sheet) (q_dcC dX11_sheet_4 q_dcN) (show _ = some (5, [.ref 0, .int x1, .int x2, .int x3], [.int x1, .ref 69]) from rfl)).trans ?_
  exact K_calV (d := d) (Y := mX11_sheet) (Z := mX6_has) (vs := [.int x1]) (rest := []) (la := [.ref 69, .int x1]) dX11_sheet_5 rfl rfl rfl rfl ⟨by decide, rfl⟩ (Nat.le_of_ble_eq_true rfl) rfl (Nat.le_of_ble_eq_true rfl)
theorem B_X11_sheet_8 {o : q_H} (d : Nat) (x1 x2 x3 y0 : Int32) (g : Nat → Nat → Int32) : q_sem (d + 1) mX11_sheet 8 [.ref 0, .int x1, .int x2, .int x3] [.int y0] (q_K o g) = (if y0 = 0 then (q_sem d mX11_finding 0 [.ref 0, .int 1] [] (q_K o g)).bind (fun r => q_sem (d + 1) mX11_sheet 38 [.ref 0, .int x1, .int x2, .int x3] (r.1.toList ++ []) r.2) else (if x2 = 0 then (if x2 = 0 then (if x2 = 0 then (if x2 = 0 then (q_sem d mX6_lay 0 [.ref 69, .int x1, .int x2, .int 0, .retAddr 0] [] (q_K o g)).bind (fun r => q_sem (d + 1) mX11_sheet 87 [.ref 0, .int x1, .int x2, .int x3] (r.1.toList ++ []) r.2) else (q_sem d mX6_lay 0 [.ref 69, .int x1, .int x2, .int x3, .retAddr 0] [] (q_K o g)).bind (fun r => q_sem (d + 1) mX11_sheet 87 [.ref 0, .int x1, .int x2, .int x3] (r.1.toList ++ []) r.2)) else (if x3 ≤ 24 then (if x2 = 0 then (q_sem d mX6_lay 0 [.ref 69, .int x1, .int x2, .int 0, .retAddr 0] [] (q_K o g)).bind (fun r => q_sem (d + 1) mX11_sheet 87 [.ref 0, .int x1, .int x2, .int x3] (r.1.toList ++ []) r.2) else (q_sem d mX6_lay 0 [.ref 69, .int x1, .int x2, .int x3, .retAddr 0] [] (q_K o g)).bind (fun r => q_sem (d + 1) mX11_sheet 87 [.ref 0, .int x1, .int x2, .int x3] (r.1.toList ++ []) r.2)) else (q_sem d mX11_finding 0 [.ref 0, .int 1] [] (q_K o g)).bind (fun r => q_sem (d + 1) mX11_sheet 68 [.ref 0, .int x1, .int x2, .int x3] (r.1.toList ++ []) r.2))) else (if 0 ≤ x3 then (if x2 = 0 then (if x2 = 0 then (q_sem d mX6_lay 0 [.ref 69, .int x1, .int x2, .int 0, .retAddr 0] [] (q_K o g)).bind (fun r => q_sem (d + 1) mX11_sheet 87 [.ref 0, .int x1, .int x2, .int x3] (r.1.toList ++ []) r.2) else (q_sem d mX6_lay 0 [.ref 69, .int x1, .int x2, .int x3, .retAddr 0] [] (q_K o g)).bind (fun r => q_sem (d + 1) mX11_sheet 87 [.ref 0, .int x1, .int x2, .int x3] (r.1.toList ++ []) r.2)) else (if x3 ≤ 24 then (if x2 = 0 then (q_sem d mX6_lay 0 [.ref 69, .int x1, .int x2, .int 0, .retAddr 0] [] (q_K o g)).bind (fun r => q_sem (d + 1) mX11_sheet 87 [.ref 0, .int x1, .int x2, .int x3] (r.1.toList ++ []) r.2) else (q_sem d mX6_lay 0 [.ref 69, .int x1, .int x2, .int x3, .retAddr 0] [] (q_K o g)).bind (fun r => q_sem (d + 1) mX11_sheet 87 [.ref 0, .int x1, .int x2, .int x3] (r.1.toList ++ []) r.2)) else (q_sem d mX11_finding 0 [.ref 0, .int 1] [] (q_K o g)).bind (fun r => q_sem (d + 1) mX11_sheet 68 [.ref 0, .int x1, .int x2, .int x3] (r.1.toList ++ []) r.2))) else (q_sem d mX11_finding 0 [.ref 0, .int 3] [] (q_K o g)).bind (fun r => q_sem (d + 1) mX11_sheet 52 [.ref 0, .int x1, .int x2, .int x3] (r.1.toList ++ []) r.2))) else (if x2 = 8 then (if x2 = 0 then (if x2 = 0 then (if x2 = 0 then (q_sem d mX6_lay 0 [.ref 69, .int x1, .int x2, .int 0, .retAddr 0] [] (q_K o g)).bind (fun r => q_sem (d + 1) mX11_sheet 87 [.ref 0, .int x1, .int x2, .int x3] (r.1.toList ++ []) r.2) else (q_sem d mX6_lay 0 [.ref 69, .int x1, .int x2, .int x3, .retAddr 0] [] (q_K o g)).bind (fun r => q_sem (d + 1) mX11_sheet 87 [.ref 0, .int x1, .int x2, .int x3] (r.1.toList ++ []) r.2)) else (if x3 ≤ 24 then (if x2 = 0 then (q_sem d mX6_lay 0 [.ref 69, .int x1, .int x2, .int 0, .retAddr 0] [] (q_K o g)).bind (fun r => q_sem (d + 1) mX11_sheet 87 [.ref 0, .int x1, .int x2, .int x3] (r.1.toList ++ []) r.2) else (q_sem d mX6_lay 0 [.ref 69, .int x1, .int x2, .int x3, .retAddr 0] [] (q_K o g)).bind (fun r => q_sem (d + 1) mX11_sheet 87 [.ref 0, .int x1, .int x2, .int x3] (r.1.toList ++ []) r.2)) else (q_sem d mX11_finding 0 [.ref 0, .int 1] [] (q_K o g)).bind (fun r => q_sem (d + 1) mX11_sheet 68 [.ref 0, .int x1, .int x2, .int x3] (r.1.toList ++ []) r.2))) else (if 0 ≤ x3 then (if x2 = 0 then (if x2 = 0 then (q_sem d mX6_lay 0 [.ref 69, .int x1, .int x2, .int 0, .retAddr 0] [] (q_K o g)).bind (fun r => q_sem (d + 1) mX11_sheet 87 [.ref 0, .int x1, .int x2, .int x3] (r.1.toList ++ []) r.2) else (q_sem d mX6_lay 0 [.ref 69, .int x1, .int x2, .int x3, .retAddr 0] [] (q_K o g)).bind (fun r => q_sem (d + 1) mX11_sheet 87 [.ref 0, .int x1, .int x2, .int x3] (r.1.toList ++ []) r.2)) else (if x3 ≤ 24 then (if x2 = 0 then (q_sem d mX6_lay 0 [.ref 69, .int x1, .int x2, .int 0, .retAddr 0] [] (q_K o g)).bind (fun r => q_sem (d + 1) mX11_sheet 87 [.ref 0, .int x1, .int x2, .int x3] (r.1.toList ++ []) r.2) else (q_sem d mX6_lay 0 [.ref 69, .int x1, .int x2, .int x3, .retAddr 0] [] (q_K o g)).bind (fun r => q_sem (d + 1) mX11_sheet 87 [.ref 0, .int x1, .int x2, .int x3] (r.1.toList ++ []) r.2)) else (q_sem d mX11_finding 0 [.ref 0, .int 1] [] (q_K o g)).bind (fun r => q_sem (d + 1) mX11_sheet 68 [.ref 0, .int x1, .int x2, .int x3] (r.1.toList ++ []) r.2))) else (q_sem d mX11_finding 0 [.ref 0, .int 3] [] (q_K o g)).bind (fun r => q_sem (d + 1) mX11_sheet 52 [.ref 0, .int x1, .int x2, .int x3] (r.1.toList ++ []) r.2))) else (if x2 = 16 then (if x2 = 0 then (if x2 = 0 then (if x2 = 0 then (q_sem d mX6_lay 0 [.ref 69, .int x1, .int x2, .int 0, .retAddr 0] [] (q_K o g)).bind (fun r => q_sem (d + 1) mX11_sheet 87 [.ref 0, .int x1, .int x2, .int x3] (r.1.toList ++ []) r.2) else (q_sem d mX6_lay 0 [.ref 69, .int x1, .int x2, .int x3, .retAddr 0] [] (q_K o g)).bind (fun r => q_sem (d + 1) mX11_sheet 87 [.ref 0, .int x1, .int x2, .int x3] (r.1.toList ++ []) r.2)) else (if x3 ≤ 24 then (if x2 = 0 then (q_sem d mX6_lay 0 [.ref 69, .int x1, .int x2, .int 0, .retAddr 0] [] (q_K o g)).bind (fun r => q_sem (d + 1) mX11_sheet 87 [.ref 0, .int x1, .int x2, .int x3] (r.1.toList ++ []) r.2) else (q_sem d mX6_lay 0 [.ref 69, .int x1, .int x2, .int x3, .retAddr 0] [] (q_K o g)).bind (fun r => q_sem (d + 1) mX11_sheet 87 [.ref 0, .int x1, .int x2, .int x3] (r.1.toList ++ []) r.2)) else (q_sem d mX11_finding 0 [.ref 0, .int 1] [] (q_K o g)).bind (fun r => q_sem (d + 1) mX11_sheet 68 [.ref 0, .int x1, .int x2, .int x3] (r.1.toList ++ []) r.2))) else (if 0 ≤ x3 then (if x2 = 0 then (if x2 = 0 then (q_sem d mX6_lay 0 [.ref 69, .int x1, .int x2, .int 0, .retAddr 0] [] (q_K o g)).bind (fun r => q_sem (d + 1) mX11_sheet 87 [.ref 0, .int x1, .int x2, .int x3] (r.1.toList ++ []) r.2) else (q_sem d mX6_lay 0 [.ref 69, .int x1, .int x2, .int x3, .retAddr 0] [] (q_K o g)).bind (fun r => q_sem (d + 1) mX11_sheet 87 [.ref 0, .int x1, .int x2, .int x3] (r.1.toList ++ []) r.2)) else (if x3 ≤ 24 then (if x2 = 0 then (q_sem d mX6_lay 0 [.ref 69, .int x1, .int x2, .int 0, .retAddr 0] [] (q_K o g)).bind (fun r => q_sem (d + 1) mX11_sheet 87 [.ref 0, .int x1, .int x2, .int x3] (r.1.toList ++ []) r.2) else (q_sem d mX6_lay 0 [.ref 69, .int x1, .int x2, .int x3, .retAddr 0] [] (q_K o g)).bind (fun r => q_sem (d + 1) mX11_sheet 87 [.ref 0, .int x1, .int x2, .int x3] (r.1.toList ++ []) r.2)) else (q_sem d mX11_finding 0 [.ref 0, .int 1] [] (q_K o g)).bind (fun r => q_sem (d + 1) mX11_sheet 68 [.ref 0, .int x1, .int x2, .int x3] (r.1.toList ++ []) r.2))) else (q_sem d mX11_finding 0 [.ref 0, .int 3] [] (q_K o g)).bind (fun r => q_sem (d + 1) mX11_sheet 52 [.ref 0, .int x1, .int x2, .int x3] (r.1.toList ++ []) r.2))) else (if x2 = 32 then (if x2 = 0 then (if x2 = 0 then (if x2 = 0 then (q_sem d mX6_lay 0 [.ref 69, .int x1, .int x2, .int 0, .retAddr 0] [] (q_K o g)).bind (fun r => q_sem (d + 1) mX11_sheet 87 [.ref 0, .int x1, .int x2, .int x3] (r.1.toList ++ []) r.2) else (q_sem d mX6_lay 0 [.ref 69, .int x1, .int x2, .int x3, .retAddr 0] [] (q_K o g)).bind (fun r => q_sem (d + 1) mX11_sheet 87 [.ref 0, .int x1, .int x2, .int x3] (r.1.toList ++ []) r.2)) else (if x3 ≤ 24 then (if x2 = 0 then (q_sem d mX6_lay 0 [.ref 69, .int x1, .int x2, .int 0, .retAddr 0] [] (q_K o g)).bind (fun r => q_sem (d + 1) mX11_sheet 87 [.ref 0, .int x1, .int x2, .int x3] (r.1.toList ++ []) r.2) else (q_sem d mX6_lay 0 [.ref 69, .int x1, .int x2, .int x3, .retAddr 0] [] (q_K o g)).bind (fun r => q_sem (d + 1) mX11_sheet 87 [.ref 0, .int x1, .int x2, .int x3] (r.1.toList ++ []) r.2)) else (q_sem d mX11_finding 0 [.ref 0, .int 1] [] (q_K o g)).bind (fun r => q_sem (d + 1) mX11_sheet 68 [.ref 0, .int x1, .int x2, .int x3] (r.1.toList ++ []) r.2))) else (if 0 ≤ x3 then (if x2 = 0 then (if x2 = 0 then (q_sem d mX6_lay 0 [.ref 69, .int x1, .int x2, .int 0, .retAddr 0] [] (q_K o g)).bind (fun r => q_sem (d + 1) mX11_sheet 87 [.ref 0, .int x1, .int x2, .int x3] (r.1.toList ++ []) r.2) else (q_sem d mX6_lay 0 [.ref 69, .int x1, .int x2, .int x3, .retAddr 0] [] (q_K o g)).bind (fun r => q_sem (d + 1) mX11_sheet 87 [.ref 0, .int x1, .int x2, .int x3] (r.1.toList ++ []) r.2)) else (if x3 ≤ 24 then (if x2 = 0 then (q_sem d mX6_lay 0 [.ref 69, .int x1, .int x2, .int 0, .retAddr 0] [] (q_K o g)).bind (fun r => q_sem (d + 1) mX11_sheet 87 [.ref 0, .int x1, .int x2, .int x3] (r.1.toList ++ []) r.2) else (q_sem d mX6_lay 0 [.ref 69, .int x1, .int x2, .int x3, .retAddr 0] [] (q_K o g)).bind (fun r => q_sem (d + 1) mX11_sheet 87 [.ref 0, .int x1, .int x2, .int x3] (r.1.toList ++ []) r.2)) else (q_sem d mX11_finding 0 [.ref 0, .int 1] [] (q_K o g)).bind (fun r => q_sem (d + 1) mX11_sheet 68 [.ref 0, .int x1, .int x2, .int x3] (r.1.toList ++ []) r.2))) else (q_sem d mX11_finding 0 [.ref 0, .int 3] [] (q_K o g)).bind (fun r => q_sem (d + 1) mX11_sheet 52 [.ref 0, .int x1, .int x2, .int x3] (r.1.toList ++ []) r.2))) else (q_sem d mX11_finding 0 [.ref 0, .int 1] [] (q_K o g)).bind (fun r => q_sem (d + 1) mX11_sheet 38 [.ref 0, .int x1, .int x2, .int x3] (r.1.toList ++ []) r.2)))))) := by
  refine (q_blk (Y := mX11_sheet) (q_dcC dX11_sheet_8 q_dcN) (show _ = some ((if q_cc .eq y0 0 = true then 33 else 11), [.ref 0, .int x1, .int x2, .int x3], []) from rfl)).trans ?_
  by_cases c1 : y0 = 0
  · rw [if_pos (show q_cc .eq y0 0 = true from decide_eq_true c1)]
    refine Eq.trans ?_ (if_pos c1).symm
    refine (q_blk (Y := mX11_sheet) (q_dcC dX11_sheet_33 (q_dcC dX11_sheet_34 q_dcN)) (show _ = some (35, [.ref 0, .int x1, .int x2, .int x3], [.int 1, .ref 0]) from rfl)).trans ?_
    exact K_calV (d := d) (Y := mX11_sheet) (Z := mX11_finding) (vs := [.int 1]) (rest := []) (la := [.ref 0, .int 1]) dX11_sheet_35 rfl rfl rfl rfl ⟨by decide, rfl⟩ (Nat.le_of_ble_eq_true rfl) rfl (Nat.le_of_ble_eq_true rfl)
  · rw [if_neg (show ¬ q_cc .eq y0 0 = true from fun z => c1 (of_decide_eq_true z))]
    refine Eq.trans ?_ (if_neg c1).symm
    refine (q_blk (Y := mX11_sheet) (q_dcC dX11_sheet_11 (q_dcC dX11_sheet_12 q_dcN)) (show _ = some ((if q_cc .eq x2 0 = true then 39 else 15), [.ref 0, .int x1, .int x2, .int x3], []) from rfl)).trans ?_
    by_cases c2 : x2 = 0
    · rw [if_pos (show q_cc .eq x2 0 = true from decide_eq_true c2)]
      refine Eq.trans ?_ (if_pos c2).symm
      refine (q_blk (Y := mX11_sheet) (q_dcC dX11_sheet_39 (q_dcC dX11_sheet_40 q_dcN)) (show _ = some ((if q_cc .eq x2 0 = true then 53 else 43), [.ref 0, .int x1, .int x2, .int x3], []) from rfl)).trans ?_
      by_cases c3 : x2 = 0
      · rw [if_pos (show q_cc .eq x2 0 = true from decide_eq_true c3)]
        refine Eq.trans ?_ (if_pos c3).symm
        refine (q_blk (Y := mX11_sheet) (q_dcC dX11_sheet_53 (q_dcC dX11_sheet_54 q_dcN)) (show _ = some ((if q_cc .eq x2 0 = true then 69 else 57), [.ref 0, .int x1, .int x2, .int x3], []) from rfl)).trans ?_
        by_cases c4 : x2 = 0
        · rw [if_pos (show q_cc .eq x2 0 = true from decide_eq_true c4)]
          refine Eq.trans ?_ (if_pos c4).symm
          refine (q_blk (Y := mX11_sheet) (q_dcC dX11_sheet_69 q_dcN) (show _ = some (70, [.ref 0, .int x1, .int x2, .int x3], [.ref 0]) from rfl)).trans ?_
          refine (k_getr (Y := mX11_sheet) dX11_sheet_70 rfl rfl ⟨by decide, rfl⟩ (by decide) rfl).trans ?_
          refine (q_blk (Y := mX11_sheet) (q_dcC dX11_sheet_73 (q_dcC dX11_sheet_74 (q_dcC dX11_sheet_75 (q_dcC dX11_sheet_76 q_dcN)))) (show _ = some ((if q_cc .ne x2 0 = true then 83 else 79), [.ref 0, .int x1, .int x2, .int x3], [.int x2, .int x1, .ref 69]) from rfl)).trans ?_
          by_cases c5 : x2 = 0
          · rw [if_neg (show ¬ q_cc .ne x2 0 = true from fun z => (of_decide_eq_true z : ¬ x2 = 0) c5)]
            refine Eq.trans ?_ (if_pos c5).symm
            refine (q_blk (Y := mX11_sheet) (q_dcC dX11_sheet_79 (q_dcC dX11_sheet_80 q_dcN)) (show _ = some (84, [.ref 0, .int x1, .int x2, .int x3], [.int 0, .int x2, .int x1, .ref 69]) from rfl)).trans ?_
            exact K_calV (d := d) (Y := mX11_sheet) (Z := mX6_lay) (vs := [.int x1, .int x2, .int 0]) (rest := []) (la := [.ref 69, .int x1, .int x2, .int 0, .retAddr 0]) dX11_sheet_84 rfl rfl rfl rfl ⟨by decide, rfl⟩ (Nat.le_of_ble_eq_true rfl) rfl (Nat.le_of_ble_eq_true rfl)
          · rw [if_pos (show q_cc .ne x2 0 = true from decide_eq_true c5)]
            refine Eq.trans ?_ (if_neg c5).symm
            refine (q_blk (Y := mX11_sheet) (q_dcC dX11_sheet_83 q_dcN) (show _ = some (84, [.ref 0, .int x1, .int x2, .int x3], [.int x3, .int x2, .int x1, .ref 69]) from rfl)).trans ?_
            exact K_calV (d := d) (Y := mX11_sheet) (Z := mX6_lay) (vs := [.int x1, .int x2, .int x3]) (rest := []) (la := [.ref 69, .int x1, .int x2, .int x3, .retAddr 0]) dX11_sheet_84 rfl rfl rfl rfl ⟨by decide, rfl⟩ (Nat.le_of_ble_eq_true rfl) rfl (Nat.le_of_ble_eq_true rfl)
        · rw [if_neg (show ¬ q_cc .eq x2 0 = true from fun z => c4 (of_decide_eq_true z))]
          refine Eq.trans ?_ (if_neg c4).symm
          refine (q_blk (Y := mX11_sheet) (q_dcC dX11_sheet_57 (q_dcC dX11_sheet_58 (q_dcC dX11_sheet_60 q_dcN))) (show _ = some ((if q_cc .le x3 24 = true then 69 else 63), [.ref 0, .int x1, .int x2, .int x3], []) from rfl)).trans ?_
          by_cases c6 : x3 ≤ 24
          · rw [if_pos (show q_cc .le x3 24 = true from decide_eq_true c6)]
            refine Eq.trans ?_ (if_pos c6).symm
            refine (q_blk (Y := mX11_sheet) (q_dcC dX11_sheet_69 q_dcN) (show _ = some (70, [.ref 0, .int x1, .int x2, .int x3], [.ref 0]) from rfl)).trans ?_
            refine (k_getr (Y := mX11_sheet) dX11_sheet_70 rfl rfl ⟨by decide, rfl⟩ (by decide) rfl).trans ?_
            refine (q_blk (Y := mX11_sheet) (q_dcC dX11_sheet_73 (q_dcC dX11_sheet_74 (q_dcC dX11_sheet_75 (q_dcC dX11_sheet_76 q_dcN)))) (show _ = some ((if q_cc .ne x2 0 = true then 83 else 79), [.ref 0, .int x1, .int x2, .int x3], [.int x2, .int x1, .ref 69]) from rfl)).trans ?_
            by_cases c7 : x2 = 0
            · rw [if_neg (show ¬ q_cc .ne x2 0 = true from fun z => (of_decide_eq_true z : ¬ x2 = 0) c7)]
              refine Eq.trans ?_ (if_pos c7).symm
              refine (q_blk (Y := mX11_sheet) (q_dcC dX11_sheet_79 (q_dcC dX11_sheet_80 q_dcN)) (show _ = some (84, [.ref 0, .int x1, .int x2, .int x3], [.int 0, .int x2, .int x1, .ref 69]) from rfl)).trans ?_
              exact K_calV (d := d) (Y := mX11_sheet) (Z := mX6_lay) (vs := [.int x1, .int x2, .int 0]) (rest := []) (la := [.ref 69, .int x1, .int x2, .int 0, .retAddr 0]) dX11_sheet_84 rfl rfl rfl rfl ⟨by decide, rfl⟩ (Nat.le_of_ble_eq_true rfl) rfl (Nat.le_of_ble_eq_true rfl)
            · rw [if_pos (show q_cc .ne x2 0 = true from decide_eq_true c7)]
              refine Eq.trans ?_ (if_neg c7).symm
              refine (q_blk (Y := mX11_sheet) (q_dcC dX11_sheet_83 q_dcN) (show _ = some (84, [.ref 0, .int x1, .int x2, .int x3], [.int x3, .int x2, .int x1, .ref 69]) from rfl)).trans ?_
              exact K_calV (d := d) (Y := mX11_sheet) (Z := mX6_lay) (vs := [.int x1, .int x2, .int x3]) (rest := []) (la := [.ref 69, .int x1, .int x2, .int x3, .retAddr 0]) dX11_sheet_84 rfl rfl rfl rfl ⟨by decide, rfl⟩ (Nat.le_of_ble_eq_true rfl) rfl (Nat.le_of_ble_eq_true rfl)
          · rw [if_neg (show ¬ q_cc .le x3 24 = true from fun z => c6 (of_decide_eq_true z))]
            refine Eq.trans ?_ (if_neg c6).symm
            refine (q_blk (Y := mX11_sheet) (q_dcC dX11_sheet_63 (q_dcC dX11_sheet_64 q_dcN)) (show _ = some (65, [.ref 0, .int x1, .int x2, .int x3], [.int 1, .ref 0]) from rfl)).trans ?_
            exact K_calV (d := d) (Y := mX11_sheet) (Z := mX11_finding) (vs := [.int 1]) (rest := []) (la := [.ref 0, .int 1]) dX11_sheet_65 rfl rfl rfl rfl ⟨by decide, rfl⟩ (Nat.le_of_ble_eq_true rfl) rfl (Nat.le_of_ble_eq_true rfl)
      · rw [if_neg (show ¬ q_cc .eq x2 0 = true from fun z => c3 (of_decide_eq_true z))]
        refine Eq.trans ?_ (if_neg c3).symm
        refine (q_blk (Y := mX11_sheet) (q_dcC dX11_sheet_43 (q_dcC dX11_sheet_44 q_dcN)) (show _ = some ((if q_cc .ge x3 0 = true then 53 else 47), [.ref 0, .int x1, .int x2, .int x3], []) from rfl)).trans ?_
        by_cases c8 : 0 ≤ x3
        · rw [if_pos (show q_cc .ge x3 0 = true from decide_eq_true c8)]
          refine Eq.trans ?_ (if_pos c8).symm
          refine (q_blk (Y := mX11_sheet) (q_dcC dX11_sheet_53 (q_dcC dX11_sheet_54 q_dcN)) (show _ = some ((if q_cc .eq x2 0 = true then 69 else 57), [.ref 0, .int x1, .int x2, .int x3], []) from rfl)).trans ?_
          by_cases c9 : x2 = 0
          · rw [if_pos (show q_cc .eq x2 0 = true from decide_eq_true c9)]
            refine Eq.trans ?_ (if_pos c9).symm
            refine (q_blk (Y := mX11_sheet) (q_dcC dX11_sheet_69 q_dcN) (show _ = some (70, [.ref 0, .int x1, .int x2, .int x3], [.ref 0]) from rfl)).trans ?_
            refine (k_getr (Y := mX11_sheet) dX11_sheet_70 rfl rfl ⟨by decide, rfl⟩ (by decide) rfl).trans ?_
            refine (q_blk (Y := mX11_sheet) (q_dcC dX11_sheet_73 (q_dcC dX11_sheet_74 (q_dcC dX11_sheet_75 (q_dcC dX11_sheet_76 q_dcN)))) (show _ = some ((if q_cc .ne x2 0 = true then 83 else 79), [.ref 0, .int x1, .int x2, .int x3], [.int x2, .int x1, .ref 69]) from rfl)).trans ?_
            by_cases c10 : x2 = 0
            · rw [if_neg (show ¬ q_cc .ne x2 0 = true from fun z => (of_decide_eq_true z : ¬ x2 = 0) c10)]
              refine Eq.trans ?_ (if_pos c10).symm
              refine (q_blk (Y := mX11_sheet) (q_dcC dX11_sheet_79 (q_dcC dX11_sheet_80 q_dcN)) (show _ = some (84, [.ref 0, .int x1, .int x2, .int x3], [.int 0, .int x2, .int x1, .ref 69]) from rfl)).trans ?_
              exact K_calV (d := d) (Y := mX11_sheet) (Z := mX6_lay) (vs := [.int x1, .int x2, .int 0]) (rest := []) (la := [.ref 69, .int x1, .int x2, .int 0, .retAddr 0]) dX11_sheet_84 rfl rfl rfl rfl ⟨by decide, rfl⟩ (Nat.le_of_ble_eq_true rfl) rfl (Nat.le_of_ble_eq_true rfl)
            · rw [if_pos (show q_cc .ne x2 0 = true from decide_eq_true c10)]
              refine Eq.trans ?_ (if_neg c10).symm
              refine (q_blk (Y := mX11_sheet) (q_dcC dX11_sheet_83 q_dcN) (show _ = some (84, [.ref 0, .int x1, .int x2, .int x3], [.int x3, .int x2, .int x1, .ref 69]) from rfl)).trans ?_
              exact K_calV (d := d) (Y := mX11_sheet) (Z := mX6_lay) (vs := [.int x1, .int x2, .int x3]) (rest := []) (la := [.ref 69, .int x1, .int x2, .int x3, .retAddr 0]) dX11_sheet_84 rfl rfl rfl rfl ⟨by decide, rfl⟩ (Nat.le_of_ble_eq_true rfl) rfl (Nat.le_of_ble_eq_true rfl)
          · rw [if_neg (show ¬ q_cc .eq x2 0 = true from fun z => c9 (of_decide_eq_true z))]
            refine Eq.trans ?_ (if_neg c9).symm
            refine (q_blk (Y := mX11_sheet) (q_dcC dX11_sheet_57 (q_dcC dX11_sheet_58 (q_dcC dX11_sheet_60 q_dcN))) (show _ = some ((if q_cc .le x3 24 = true then 69 else 63), [.ref 0, .int x1, .int x2, .int x3], []) from rfl)).trans ?_
            by_cases c11 : x3 ≤ 24
            · rw [if_pos (show q_cc .le x3 24 = true from decide_eq_true c11)]
              refine Eq.trans ?_ (if_pos c11).symm
              refine (q_blk (Y := mX11_sheet) (q_dcC dX11_sheet_69 q_dcN) (show _ = some (70, [.ref 0, .int x1, .int x2, .int x3], [.ref 0]) from rfl)).trans ?_
              refine (k_getr (Y := mX11_sheet) dX11_sheet_70 rfl rfl ⟨by decide, rfl⟩ (by decide) rfl).trans ?_
              refine (q_blk (Y := mX11_sheet) (q_dcC dX11_sheet_73 (q_dcC dX11_sheet_74 (q_dcC dX11_sheet_75 (q_dcC dX11_sheet_76 q_dcN)))) (show _ = some ((if q_cc .ne x2 0 = true then 83 else 79), [.ref 0, .int x1, .int x2, .int x3], [.int x2, .int x1, .ref 69]) from rfl)).trans ?_
              by_cases c12 : x2 = 0
              · rw [if_neg (show ¬ q_cc .ne x2 0 = true from fun z => (of_decide_eq_true z : ¬ x2 = 0) c12)]
                refine Eq.trans ?_ (if_pos c12).symm
                refine (q_blk (Y := mX11_sheet) (q_dcC dX11_sheet_79 (q_dcC dX11_sheet_80 q_dcN)) (show _ = some (84, [.ref 0, .int x1, .int x2, .int x3], [.int 0, .int x2, .int x1, .ref 69]) from rfl)).trans ?_
                exact K_calV (d := d) (Y := mX11_sheet) (Z := mX6_lay) (vs := [.int x1, .int x2, .int 0]) (rest := []) (la := [.ref 69, .int x1, .int x2, .int 0, .retAddr 0]) dX11_sheet_84 rfl rfl rfl rfl ⟨by decide, rfl⟩ (Nat.le_of_ble_eq_true rfl) rfl (Nat.le_of_ble_eq_true rfl)
              · rw [if_pos (show q_cc .ne x2 0 = true from decide_eq_true c12)]
                refine Eq.trans ?_ (if_neg c12).symm
                refine (q_blk (Y := mX11_sheet) (q_dcC dX11_sheet_83 q_dcN) (show _ = some (84, [.ref 0, .int x1, .int x2, .int x3], [.int x3, .int x2, .int x1, .ref 69]) from rfl)).trans ?_
                exact K_calV (d := d) (Y := mX11_sheet) (Z := mX6_lay) (vs := [.int x1, .int x2, .int x3]) (rest := []) (la := [.ref 69, .int x1, .int x2, .int x3, .retAddr 0]) dX11_sheet_84 rfl rfl rfl rfl ⟨by decide, rfl⟩ (Nat.le_of_ble_eq_true rfl) rfl (Nat.le_of_ble_eq_true rfl)
            · rw [if_neg (show ¬ q_cc .le x3 24 = true from fun z => c11 (of_decide_eq_true z))]
              refine Eq.trans ?_ (if_neg c11).symm
              refine (q_blk (Y := mX11_sheet) (q_dcC dX11_sheet_63 (q_dcC dX11_sheet_64 q_dcN)) (show _ = some (65, [.ref 0, .int x1, .int x2, .int x3], [.int 1, .ref 0]) from rfl)).trans ?_
              exact K_calV (d := d) (Y := mX11_sheet) (Z := mX11_finding) (vs := [.int 1]) (rest := []) (la := [.ref 0, .int 1]) dX11_sheet_65 rfl rfl rfl rfl ⟨by decide, rfl⟩ (Nat.le_of_ble_eq_true rfl) rfl (Nat.le_of_ble_eq_true rfl)
        · rw [if_neg (show ¬ q_cc .ge x3 0 = true from fun z => c8 (of_decide_eq_true z))]
          refine Eq.trans ?_ (if_neg c8).symm
          refine (q_blk (Y := mX11_sheet) (q_dcC dX11_sheet_47 (q_dcC dX11_sheet_48 q_dcN)) (show _ = some (49, [.ref 0, .int x1, .int x2, .int x3], [.int 3, .ref 0]) from rfl)).trans ?_
          exact K_calV (d := d) (Y := mX11_sheet) (Z := mX11_finding) (vs := [.int 3]) (rest := []) (la := [.ref 0, .int 3]) dX11_sheet_49 rfl rfl rfl rfl ⟨by decide, rfl⟩ (Nat.le_of_ble_eq_true rfl) rfl (Nat.le_of_ble_eq_true rfl)
    · rw [if_neg (show ¬ q_cc .eq x2 0 = true from fun z => c2 (of_decide_eq_true z))]
      refine Eq.trans ?_ (if_neg c2).symm
      refine (q_blk (Y := mX11_sheet) (q_dcC dX11_sheet_15 (q_dcC dX11_sheet_16 (q_dcC dX11_sheet_18 q_dcN))) (show _ = some ((if q_cc .eq x2 8 = true then 39 else 21), [.ref 0, .int x1, .int x2, .int x3], []) from rfl)).trans ?_
      by_cases c13 : x2 = 8
      · rw [if_pos (show q_cc .eq x2 8 = true from decide_eq_true c13)]
        refine Eq.trans ?_ (if_pos c13).symm
        refine (q_blk (Y := mX11_sheet) (q_dcC dX11_sheet_39 (q_dcC dX11_sheet_40 q_dcN)) (show _ = some ((if q_cc .eq x2 0 = true then 53 else 43), [.ref 0, .int x1, .int x2, .int x3], []) from rfl)).trans ?_
        by_cases c14 : x2 = 0
        · rw [if_pos (show q_cc .eq x2 0 = true from decide_eq_true c14)]
          refine Eq.trans ?_ (if_pos c14).symm
          refine (q_blk (Y := mX11_sheet) (q_dcC dX11_sheet_53 (q_dcC dX11_sheet_54 q_dcN)) (show _ = some ((if q_cc .eq x2 0 = true then 69 else 57), [.ref 0, .int x1, .int x2, .int x3], []) from rfl)).trans ?_
          by_cases c15 : x2 = 0
          · rw [if_pos (show q_cc .eq x2 0 = true from decide_eq_true c15)]
            refine Eq.trans ?_ (if_pos c15).symm
            refine (q_blk (Y := mX11_sheet) (q_dcC dX11_sheet_69 q_dcN) (show _ = some (70, [.ref 0, .int x1, .int x2, .int x3], [.ref 0]) from rfl)).trans ?_
            refine (k_getr (Y := mX11_sheet) dX11_sheet_70 rfl rfl ⟨by decide, rfl⟩ (by decide) rfl).trans ?_
            refine (q_blk (Y := mX11_sheet) (q_dcC dX11_sheet_73 (q_dcC dX11_sheet_74 (q_dcC dX11_sheet_75 (q_dcC dX11_sheet_76 q_dcN)))) (show _ = some ((if q_cc .ne x2 0 = true then 83 else 79), [.ref 0, .int x1, .int x2, .int x3], [.int x2, .int x1, .ref 69]) from rfl)).trans ?_
            by_cases c16 : x2 = 0
            · rw [if_neg (show ¬ q_cc .ne x2 0 = true from fun z => (of_decide_eq_true z : ¬ x2 = 0) c16)]
              refine Eq.trans ?_ (if_pos c16).symm
              refine (q_blk (Y := mX11_sheet) (q_dcC dX11_sheet_79 (q_dcC dX11_sheet_80 q_dcN)) (show _ = some (84, [.ref 0, .int x1, .int x2, .int x3], [.int 0, .int x2, .int x1, .ref 69]) from rfl)).trans ?_
              exact K_calV (d := d) (Y := mX11_sheet) (Z := mX6_lay) (vs := [.int x1, .int x2, .int 0]) (rest := []) (la := [.ref 69, .int x1, .int x2, .int 0, .retAddr 0]) dX11_sheet_84 rfl rfl rfl rfl ⟨by decide, rfl⟩ (Nat.le_of_ble_eq_true rfl) rfl (Nat.le_of_ble_eq_true rfl)
            · rw [if_pos (show q_cc .ne x2 0 = true from decide_eq_true c16)]
              refine Eq.trans ?_ (if_neg c16).symm
              refine (q_blk (Y := mX11_sheet) (q_dcC dX11_sheet_83 q_dcN) (show _ = some (84, [.ref 0, .int x1, .int x2, .int x3], [.int x3, .int x2, .int x1, .ref 69]) from rfl)).trans ?_
              exact K_calV (d := d) (Y := mX11_sheet) (Z := mX6_lay) (vs := [.int x1, .int x2, .int x3]) (rest := []) (la := [.ref 69, .int x1, .int x2, .int x3, .retAddr 0]) dX11_sheet_84 rfl rfl rfl rfl ⟨by decide, rfl⟩ (Nat.le_of_ble_eq_true rfl) rfl (Nat.le_of_ble_eq_true rfl)
          · rw [if_neg (show ¬ q_cc .eq x2 0 = true from fun z => c15 (of_decide_eq_true z))]
            refine Eq.trans ?_ (if_neg c15).symm
            refine (q_blk (Y := mX11_sheet) (q_dcC dX11_sheet_57 (q_dcC dX11_sheet_58 (q_dcC dX11_sheet_60 q_dcN))) (show _ = some ((if q_cc .le x3 24 = true then 69 else 63), [.ref 0, .int x1, .int x2, .int x3], []) from rfl)).trans ?_
            by_cases c17 : x3 ≤ 24
            · rw [if_pos (show q_cc .le x3 24 = true from decide_eq_true c17)]
              refine Eq.trans ?_ (if_pos c17).symm
              refine (q_blk (Y := mX11_sheet) (q_dcC dX11_sheet_69 q_dcN) (show _ = some (70, [.ref 0, .int x1, .int x2, .int x3], [.ref 0]) from rfl)).trans ?_
              refine (k_getr (Y := mX11_sheet) dX11_sheet_70 rfl rfl ⟨by decide, rfl⟩ (by decide) rfl).trans ?_
              refine (q_blk (Y := mX11_sheet) (q_dcC dX11_sheet_73 (q_dcC dX11_sheet_74 (q_dcC dX11_sheet_75 (q_dcC dX11_sheet_76 q_dcN)))) (show _ = some ((if q_cc .ne x2 0 = true then 83 else 79), [.ref 0, .int x1, .int x2, .int x3], [.int x2, .int x1, .ref 69]) from rfl)).trans ?_
              by_cases c18 : x2 = 0
              · rw [if_neg (show ¬ q_cc .ne x2 0 = true from fun z => (of_decide_eq_true z : ¬ x2 = 0) c18)]
                refine Eq.trans ?_ (if_pos c18).symm
                refine (q_blk (Y := mX11_sheet) (q_dcC dX11_sheet_79 (q_dcC dX11_sheet_80 q_dcN)) (show _ = some (84, [.ref 0, .int x1, .int x2, .int x3], [.int 0, .int x2, .int x1, .ref 69]) from rfl)).trans ?_
                exact K_calV (d := d) (Y := mX11_sheet) (Z := mX6_lay) (vs := [.int x1, .int x2, .int 0]) (rest := []) (la := [.ref 69, .int x1, .int x2, .int 0, .retAddr 0]) dX11_sheet_84 rfl rfl rfl rfl ⟨by decide, rfl⟩ (Nat.le_of_ble_eq_true rfl) rfl (Nat.le_of_ble_eq_true rfl)
              · rw [if_pos (show q_cc .ne x2 0 = true from decide_eq_true c18)]
                refine Eq.trans ?_ (if_neg c18).symm
                refine (q_blk (Y := mX11_sheet) (q_dcC dX11_sheet_83 q_dcN) (show _ = some (84, [.ref 0, .int x1, .int x2, .int x3], [.int x3, .int x2, .int x1, .ref 69]) from rfl)).trans ?_
                exact K_calV (d := d) (Y := mX11_sheet) (Z := mX6_lay) (vs := [.int x1, .int x2, .int x3]) (rest := []) (la := [.ref 69, .int x1, .int x2, .int x3, .retAddr 0]) dX11_sheet_84 rfl rfl rfl rfl ⟨by decide, rfl⟩ (Nat.le_of_ble_eq_true rfl) rfl (Nat.le_of_ble_eq_true rfl)
            · rw [if_neg (show ¬ q_cc .le x3 24 = true from fun z => c17 (of_decide_eq_true z))]
              refine Eq.trans ?_ (if_neg c17).symm
              refine (q_blk (Y := mX11_sheet) (q_dcC dX11_sheet_63 (q_dcC dX11_sheet_64 q_dcN)) (show _ = some (65, [.ref 0, .int x1, .int x2, .int x3], [.int 1, .ref 0]) from rfl)).trans ?_
              exact K_calV (d := d) (Y := mX11_sheet) (Z := mX11_finding) (vs := [.int 1]) (rest := []) (la := [.ref 0, .int 1]) dX11_sheet_65 rfl rfl rfl rfl ⟨by decide, rfl⟩ (Nat.le_of_ble_eq_true rfl) rfl (Nat.le_of_ble_eq_true rfl)
        · rw [if_neg (show ¬ q_cc .eq x2 0 = true from fun z => c14 (of_decide_eq_true z))]
          refine Eq.trans ?_ (if_neg c14).symm
          refine (q_blk (Y := mX11_sheet) (q_dcC dX11_sheet_43 (q_dcC dX11_sheet_44 q_dcN)) (show _ = some ((if q_cc .ge x3 0 = true then 53 else 47), [.ref 0, .int x1, .int x2, .int x3], []) from rfl)).trans ?_
          by_cases c19 : 0 ≤ x3
          · rw [if_pos (show q_cc .ge x3 0 = true from decide_eq_true c19)]
            refine Eq.trans ?_ (if_pos c19).symm
            refine (q_blk (Y := mX11_sheet) (q_dcC dX11_sheet_53 (q_dcC dX11_sheet_54 q_dcN)) (show _ = some ((if q_cc .eq x2 0 = true then 69 else 57), [.ref 0, .int x1, .int x2, .int x3], []) from rfl)).trans ?_
            by_cases c20 : x2 = 0
            · rw [if_pos (show q_cc .eq x2 0 = true from decide_eq_true c20)]
              refine Eq.trans ?_ (if_pos c20).symm
              refine (q_blk (Y := mX11_sheet) (q_dcC dX11_sheet_69 q_dcN) (show _ = some (70, [.ref 0, .int x1, .int x2, .int x3], [.ref 0]) from rfl)).trans ?_
              refine (k_getr (Y := mX11_sheet) dX11_sheet_70 rfl rfl ⟨by decide, rfl⟩ (by decide) rfl).trans ?_
              refine (q_blk (Y := mX11_sheet) (q_dcC dX11_sheet_73 (q_dcC dX11_sheet_74 (q_dcC dX11_sheet_75 (q_dcC dX11_sheet_76 q_dcN)))) (show _ = some ((if q_cc .ne x2 0 = true then 83 else 79), [.ref 0, .int x1, .int x2, .int x3], [.int x2, .int x1, .ref 69]) from rfl)).trans ?_
              by_cases c21 : x2 = 0
              · rw [if_neg (show ¬ q_cc .ne x2 0 = true from fun z => (of_decide_eq_true z : ¬ x2 = 0) c21)]
                refine Eq.trans ?_ (if_pos c21).symm
                refine (q_blk (Y := mX11_sheet) (q_dcC dX11_sheet_79 (q_dcC dX11_sheet_80 q_dcN)) (show _ = some (84, [.ref 0, .int x1, .int x2, .int x3], [.int 0, .int x2, .int x1, .ref 69]) from rfl)).trans ?_
                exact K_calV (d := d) (Y := mX11_sheet) (Z := mX6_lay) (vs := [.int x1, .int x2, .int 0]) (rest := []) (la := [.ref 69, .int x1, .int x2, .int 0, .retAddr 0]) dX11_sheet_84 rfl rfl rfl rfl ⟨by decide, rfl⟩ (Nat.le_of_ble_eq_true rfl) rfl (Nat.le_of_ble_eq_true rfl)
              · rw [if_pos (show q_cc .ne x2 0 = true from decide_eq_true c21)]
                refine Eq.trans ?_ (if_neg c21).symm
                refine (q_blk (Y := mX11_sheet) (q_dcC dX11_sheet_83 q_dcN) (show _ = some (84, [.ref 0, .int x1, .int x2, .int x3], [.int x3, .int x2, .int x1, .ref 69]) from rfl)).trans ?_
                exact K_calV (d := d) (Y := mX11_sheet) (Z := mX6_lay) (vs := [.int x1, .int x2, .int x3]) (rest := []) (la := [.ref 69, .int x1, .int x2, .int x3, .retAddr 0]) dX11_sheet_84 rfl rfl rfl rfl ⟨by decide, rfl⟩ (Nat.le_of_ble_eq_true rfl) rfl (Nat.le_of_ble_eq_true rfl)
            · rw [if_neg (show ¬ q_cc .eq x2 0 = true from fun z => c20 (of_decide_eq_true z))]
              refine Eq.trans ?_ (if_neg c20).symm
              refine (q_blk (Y := mX11_sheet) (q_dcC dX11_sheet_57 (q_dcC dX11_sheet_58 (q_dcC dX11_sheet_60 q_dcN))) (show _ = some ((if q_cc .le x3 24 = true then 69 else 63), [.ref 0, .int x1, .int x2, .int x3], []) from rfl)).trans ?_
              by_cases c22 : x3 ≤ 24
              · rw [if_pos (show q_cc .le x3 24 = true from decide_eq_true c22)]
                refine Eq.trans ?_ (if_pos c22).symm
                refine (q_blk (Y := mX11_sheet) (q_dcC dX11_sheet_69 q_dcN) (show _ = some (70, [.ref 0, .int x1, .int x2, .int x3], [.ref 0]) from rfl)).trans ?_
                refine (k_getr (Y := mX11_sheet) dX11_sheet_70 rfl rfl ⟨by decide, rfl⟩ (by decide) rfl).trans ?_
                refine (q_blk (Y := mX11_sheet) (q_dcC dX11_sheet_73 (q_dcC dX11_sheet_74 (q_dcC dX11_sheet_75 (q_dcC dX11_sheet_76 q_dcN)))) (show _ = some ((if q_cc .ne x2 0 = true then 83 else 79), [.ref 0, .int x1, .int x2, .int x3], [.int x2, .int x1, .ref 69]) from rfl)).trans ?_
                by_cases c23 : x2 = 0
                · rw [if_neg (show ¬ q_cc .ne x2 0 = true from fun z => (of_decide_eq_true z : ¬ x2 = 0) c23)]
                  refine Eq.trans ?_ (if_pos c23).symm
                  refine (q_blk (Y := mX11_sheet) (q_dcC dX11_sheet_79 (q_dcC dX11_sheet_80 q_dcN)) (show _ = some (84, [.ref 0, .int x1, .int x2, .int x3], [.int 0, .int x2, .int x1, .ref 69]) from rfl)).trans ?_
                  exact K_calV (d := d) (Y := mX11_sheet) (Z := mX6_lay) (vs := [.int x1, .int x2, .int 0]) (rest := []) (la := [.ref 69, .int x1, .int x2, .int 0, .retAddr 0]) dX11_sheet_84 rfl rfl rfl rfl ⟨by decide, rfl⟩ (Nat.le_of_ble_eq_true rfl) rfl (Nat.le_of_ble_eq_true rfl)
                · rw [if_pos (show q_cc .ne x2 0 = true from decide_eq_true c23)]
                  refine Eq.trans ?_ (if_neg c23).symm
                  refine (q_blk (Y := mX11_sheet) (q_dcC dX11_sheet_83 q_dcN) (show _ = some (84, [.ref 0, .int x1, .int x2, .int x3], [.int x3, .int x2, .int x1, .ref 69]) from rfl)).trans ?_
                  exact K_calV (d := d) (Y := mX11_sheet) (Z := mX6_lay) (vs := [.int x1, .int x2, .int x3]) (rest := []) (la := [.ref 69, .int x1, .int x2, .int x3, .retAddr 0]) dX11_sheet_84 rfl rfl rfl rfl ⟨by decide, rfl⟩ (Nat.le_of_ble_eq_true rfl) rfl (Nat.le_of_ble_eq_true rfl)
              · rw [if_neg (show ¬ q_cc .le x3 24 = true from fun z => c22 (of_decide_eq_true z))]
                refine Eq.trans ?_ (if_neg c22).symm
                refine (q_blk (Y := mX11_sheet) (q_dcC dX11_sheet_63 (q_dcC dX11_sheet_64 q_dcN)) (show _ = some (65, [.ref 0, .int x1, .int x2, .int x3], [.int 1, .ref 0]) from rfl)).trans ?_
                exact K_calV (d := d) (Y := mX11_sheet) (Z := mX11_finding) (vs := [.int 1]) (rest := []) (la := [.ref 0, .int 1]) dX11_sheet_65 rfl rfl rfl rfl ⟨by decide, rfl⟩ (Nat.le_of_ble_eq_true rfl) rfl (Nat.le_of_ble_eq_true rfl)
          · rw [if_neg (show ¬ q_cc .ge x3 0 = true from fun z => c19 (of_decide_eq_true z))]
            refine Eq.trans ?_ (if_neg c19).symm
            refine (q_blk (Y := mX11_sheet) (q_dcC dX11_sheet_47 (q_dcC dX11_sheet_48 q_dcN)) (show _ = some (49, [.ref 0, .int x1, .int x2, .int x3], [.int 3, .ref 0]) from rfl)).trans ?_
            exact K_calV (d := d) (Y := mX11_sheet) (Z := mX11_finding) (vs := [.int 3]) (rest := []) (la := [.ref 0, .int 3]) dX11_sheet_49 rfl rfl rfl rfl ⟨by decide, rfl⟩ (Nat.le_of_ble_eq_true rfl) rfl (Nat.le_of_ble_eq_true rfl)
      · rw [if_neg (show ¬ q_cc .eq x2 8 = true from fun z => c13 (of_decide_eq_true z))]
        refine Eq.trans ?_ (if_neg c13).symm
        refine (q_blk (Y := mX11_sheet) (q_dcC dX11_sheet_21 (q_dcC dX11_sheet_22 (q_dcC dX11_sheet_24 q_dcN))) (show _ = some ((if q_cc .eq x2 16 = true then 39 else 27), [.ref 0, .int x1, .int x2, .int x3], []) from rfl)).trans ?_
        by_cases c24 : x2 = 16
        · rw [if_pos (show q_cc .eq x2 16 = true from decide_eq_true c24)]
          refine Eq.trans ?_ (if_pos c24).symm
          refine (q_blk (Y := mX11_sheet) (q_dcC dX11_sheet_39 (q_dcC dX11_sheet_40 q_dcN)) (show _ = some ((if q_cc .eq x2 0 = true then 53 else 43), [.ref 0, .int x1, .int x2, .int x3], []) from rfl)).trans ?_
          by_cases c25 : x2 = 0
          · rw [if_pos (show q_cc .eq x2 0 = true from decide_eq_true c25)]
            refine Eq.trans ?_ (if_pos c25).symm
            refine (q_blk (Y := mX11_sheet) (q_dcC dX11_sheet_53 (q_dcC dX11_sheet_54 q_dcN)) (show _ = some ((if q_cc .eq x2 0 = true then 69 else 57), [.ref 0, .int x1, .int x2, .int x3], []) from rfl)).trans ?_
            by_cases c26 : x2 = 0
            · rw [if_pos (show q_cc .eq x2 0 = true from decide_eq_true c26)]
              refine Eq.trans ?_ (if_pos c26).symm
              refine (q_blk (Y := mX11_sheet) (q_dcC dX11_sheet_69 q_dcN) (show _ = some (70, [.ref 0, .int x1, .int x2, .int x3], [.ref 0]) from rfl)).trans ?_
              refine (k_getr (Y := mX11_sheet) dX11_sheet_70 rfl rfl ⟨by decide, rfl⟩ (by decide) rfl).trans ?_
              refine (q_blk (Y := mX11_sheet) (q_dcC dX11_sheet_73 (q_dcC dX11_sheet_74 (q_dcC dX11_sheet_75 (q_dcC dX11_sheet_76 q_dcN)))) (show _ = some ((if q_cc .ne x2 0 = true then 83 else 79), [.ref 0, .int x1, .int x2, .int x3], [.int x2, .int x1, .ref 69]) from rfl)).trans ?_
              by_cases c27 : x2 = 0
              · rw [if_neg (show ¬ q_cc .ne x2 0 = true from fun z => (of_decide_eq_true z : ¬ x2 = 0) c27)]
                refine Eq.trans ?_ (if_pos c27).symm
                refine (q_blk (Y := mX11_sheet) (q_dcC dX11_sheet_79 (q_dcC dX11_sheet_80 q_dcN)) (show _ = some (84, [.ref 0, .int x1, .int x2, .int x3], [.int 0, .int x2, .int x1, .ref 69]) from rfl)).trans ?_
                exact K_calV (d := d) (Y := mX11_sheet) (Z := mX6_lay) (vs := [.int x1, .int x2, .int 0]) (rest := []) (la := [.ref 69, .int x1, .int x2, .int 0, .retAddr 0]) dX11_sheet_84 rfl rfl rfl rfl ⟨by decide, rfl⟩ (Nat.le_of_ble_eq_true rfl) rfl (Nat.le_of_ble_eq_true rfl)
              · rw [if_pos (show q_cc .ne x2 0 = true from decide_eq_true c27)]
                refine Eq.trans ?_ (if_neg c27).symm
                refine (q_blk (Y := mX11_sheet) (q_dcC dX11_sheet_83 q_dcN) (show _ = some (84, [.ref 0, .int x1, .int x2, .int x3], [.int x3, .int x2, .int x1, .ref 69]) from rfl)).trans ?_
                exact K_calV (d := d) (Y := mX11_sheet) (Z := mX6_lay) (vs := [.int x1, .int x2, .int x3]) (rest := []) (la := [.ref 69, .int x1, .int x2, .int x3, .retAddr 0]) dX11_sheet_84 rfl rfl rfl rfl ⟨by decide, rfl⟩ (Nat.le_of_ble_eq_true rfl) rfl (Nat.le_of_ble_eq_true rfl)
            · rw [if_neg (show ¬ q_cc .eq x2 0 = true from fun z => c26 (of_decide_eq_true z))]
              refine Eq.trans ?_ (if_neg c26).symm
              refine (q_blk (Y := mX11_sheet) (q_dcC dX11_sheet_57 (q_dcC dX11_sheet_58 (q_dcC dX11_sheet_60 q_dcN))) (show _ = some ((if q_cc .le x3 24 = true then 69 else 63), [.ref 0, .int x1, .int x2, .int x3], []) from rfl)).trans ?_
              by_cases c28 : x3 ≤ 24
              · rw [if_pos (show q_cc .le x3 24 = true from decide_eq_true c28)]
                refine Eq.trans ?_ (if_pos c28).symm
                refine (q_blk (Y := mX11_sheet) (q_dcC dX11_sheet_69 q_dcN) (show _ = some (70, [.ref 0, .int x1, .int x2, .int x3], [.ref 0]) from rfl)).trans ?_
                refine (k_getr (Y := mX11_sheet) dX11_sheet_70 rfl rfl ⟨by decide, rfl⟩ (by decide) rfl).trans ?_
                refine (q_blk (Y := mX11_sheet) (q_dcC dX11_sheet_73 (q_dcC dX11_sheet_74 (q_dcC dX11_sheet_75 (q_dcC dX11_sheet_76 q_dcN)))) (show _ = some ((if q_cc .ne x2 0 = true then 83 else 79), [.ref 0, .int x1, .int x2, .int x3], [.int x2, .int x1, .ref 69]) from rfl)).trans ?_
                by_cases c29 : x2 = 0
                · rw [if_neg (show ¬ q_cc .ne x2 0 = true from fun z => (of_decide_eq_true z : ¬ x2 = 0) c29)]
                  refine Eq.trans ?_ (if_pos c29).symm
                  refine (q_blk (Y := mX11_sheet) (q_dcC dX11_sheet_79 (q_dcC dX11_sheet_80 q_dcN)) (show _ = some (84, [.ref 0, .int x1, .int x2, .int x3], [.int 0, .int x2, .int x1, .ref 69]) from rfl)).trans ?_
                  exact K_calV (d := d) (Y := mX11_sheet) (Z := mX6_lay) (vs := [.int x1, .int x2, .int 0]) (rest := []) (la := [.ref 69, .int x1, .int x2, .int 0, .retAddr 0]) dX11_sheet_84 rfl rfl rfl rfl ⟨by decide, rfl⟩ (Nat.le_of_ble_eq_true rfl) rfl (Nat.le_of_ble_eq_true rfl)
                · rw [if_pos (show q_cc .ne x2 0 = true from decide_eq_true c29)]
                  refine Eq.trans ?_ (if_neg c29).symm
                  refine (q_blk (Y := mX11_sheet) (q_dcC dX11_sheet_83 q_dcN) (show _ = some (84, [.ref 0, .int x1, .int x2, .int x3], [.int x3, .int x2, .int x1, .ref 69]) from rfl)).trans ?_
                  exact K_calV (d := d) (Y := mX11_sheet) (Z := mX6_lay) (vs := [.int x1, .int x2, .int x3]) (rest := []) (la := [.ref 69, .int x1, .int x2, .int x3, .retAddr 0]) dX11_sheet_84 rfl rfl rfl rfl ⟨by decide, rfl⟩ (Nat.le_of_ble_eq_true rfl) rfl (Nat.le_of_ble_eq_true rfl)
              · rw [if_neg (show ¬ q_cc .le x3 24 = true from fun z => c28 (of_decide_eq_true z))]
                refine Eq.trans ?_ (if_neg c28).symm
                refine (q_blk (Y := mX11_sheet) (q_dcC dX11_sheet_63 (q_dcC dX11_sheet_64 q_dcN)) (show _ = some (65, [.ref 0, .int x1, .int x2, .int x3], [.int 1, .ref 0]) from rfl)).trans ?_
                exact K_calV (d := d) (Y := mX11_sheet) (Z := mX11_finding) (vs := [.int 1]) (rest := []) (la := [.ref 0, .int 1]) dX11_sheet_65 rfl rfl rfl rfl ⟨by decide, rfl⟩ (Nat.le_of_ble_eq_true rfl) rfl (Nat.le_of_ble_eq_true rfl)
          · rw [if_neg (show ¬ q_cc .eq x2 0 = true from fun z => c25 (of_decide_eq_true z))]
            refine Eq.trans ?_ (if_neg c25).symm
            refine (q_blk (Y := mX11_sheet) (q_dcC dX11_sheet_43 (q_dcC dX11_sheet_44 q_dcN)) (show _ = some ((if q_cc .ge x3 0 = true then 53 else 47), [.ref 0, .int x1, .int x2, .int x3], []) from rfl)).trans ?_
            by_cases c30 : 0 ≤ x3
            · rw [if_pos (show q_cc .ge x3 0 = true from decide_eq_true c30)]
              refine Eq.trans ?_ (if_pos c30).symm
              refine (q_blk (Y := mX11_sheet) (q_dcC dX11_sheet_53 (q_dcC dX11_sheet_54 q_dcN)) (show _ = some ((if q_cc .eq x2 0 = true then 69 else 57), [.ref 0, .int x1, .int x2, .int x3], []) from rfl)).trans ?_
              by_cases c31 : x2 = 0
              · rw [if_pos (show q_cc .eq x2 0 = true from decide_eq_true c31)]
                refine Eq.trans ?_ (if_pos c31).symm
                refine (q_blk (Y := mX11_sheet) (q_dcC dX11_sheet_69 q_dcN) (show _ = some (70, [.ref 0, .int x1, .int x2, .int x3], [.ref 0]) from rfl)).trans ?_
                refine (k_getr (Y := mX11_sheet) dX11_sheet_70 rfl rfl ⟨by decide, rfl⟩ (by decide) rfl).trans ?_
                refine (q_blk (Y := mX11_sheet) (q_dcC dX11_sheet_73 (q_dcC dX11_sheet_74 (q_dcC dX11_sheet_75 (q_dcC dX11_sheet_76 q_dcN)))) (show _ = some ((if q_cc .ne x2 0 = true then 83 else 79), [.ref 0, .int x1, .int x2, .int x3], [.int x2, .int x1, .ref 69]) from rfl)).trans ?_
                by_cases c32 : x2 = 0
                · rw [if_neg (show ¬ q_cc .ne x2 0 = true from fun z => (of_decide_eq_true z : ¬ x2 = 0) c32)]
                  refine Eq.trans ?_ (if_pos c32).symm
                  refine (q_blk (Y := mX11_sheet) (q_dcC dX11_sheet_79 (q_dcC dX11_sheet_80 q_dcN)) (show _ = some (84, [.ref 0, .int x1, .int x2, .int x3], [.int 0, .int x2, .int x1, .ref 69]) from rfl)).trans ?_
                  exact K_calV (d := d) (Y := mX11_sheet) (Z := mX6_lay) (vs := [.int x1, .int x2, .int 0]) (rest := []) (la := [.ref 69, .int x1, .int x2, .int 0, .retAddr 0]) dX11_sheet_84 rfl rfl rfl rfl ⟨by decide, rfl⟩ (Nat.le_of_ble_eq_true rfl) rfl (Nat.le_of_ble_eq_true rfl)
                · rw [if_pos (show q_cc .ne x2 0 = true from decide_eq_true c32)]
                  refine Eq.trans ?_ (if_neg c32).symm
                  refine (q_blk (Y := mX11_sheet) (q_dcC dX11_sheet_83 q_dcN) (show _ = some (84, [.ref 0, .int x1, .int x2, .int x3], [.int x3, .int x2, .int x1, .ref 69]) from rfl)).trans ?_
                  exact K_calV (d := d) (Y := mX11_sheet) (Z := mX6_lay) (vs := [.int x1, .int x2, .int x3]) (rest := []) (la := [.ref 69, .int x1, .int x2, .int x3, .retAddr 0]) dX11_sheet_84 rfl rfl rfl rfl ⟨by decide, rfl⟩ (Nat.le_of_ble_eq_true rfl) rfl (Nat.le_of_ble_eq_true rfl)
              · rw [if_neg (show ¬ q_cc .eq x2 0 = true from fun z => c31 (of_decide_eq_true z))]
                refine Eq.trans ?_ (if_neg c31).symm
                refine (q_blk (Y := mX11_sheet) (q_dcC dX11_sheet_57 (q_dcC dX11_sheet_58 (q_dcC dX11_sheet_60 q_dcN))) (show _ = some ((if q_cc .le x3 24 = true then 69 else 63), [.ref 0, .int x1, .int x2, .int x3], []) from rfl)).trans ?_
                by_cases c33 : x3 ≤ 24
                · rw [if_pos (show q_cc .le x3 24 = true from decide_eq_true c33)]
                  refine Eq.trans ?_ (if_pos c33).symm
                  refine (q_blk (Y := mX11_sheet) (q_dcC dX11_sheet_69 q_dcN) (show _ = some (70, [.ref 0, .int x1, .int x2, .int x3], [.ref 0]) from rfl)).trans ?_
                  refine (k_getr (Y := mX11_sheet) dX11_sheet_70 rfl rfl ⟨by decide, rfl⟩ (by decide) rfl).trans ?_
                  refine (q_blk (Y := mX11_sheet) (q_dcC dX11_sheet_73 (q_dcC dX11_sheet_74 (q_dcC dX11_sheet_75 (q_dcC dX11_sheet_76 q_dcN)))) (show _ = some ((if q_cc .ne x2 0 = true then 83 else 79), [.ref 0, .int x1, .int x2, .int x3], [.int x2, .int x1, .ref 69]) from rfl)).trans ?_
                  by_cases c34 : x2 = 0
                  · rw [if_neg (show ¬ q_cc .ne x2 0 = true from fun z => (of_decide_eq_true z : ¬ x2 = 0) c34)]
                    refine Eq.trans ?_ (if_pos c34).symm
                    refine (q_blk (Y := mX11_sheet) (q_dcC dX11_sheet_79 (q_dcC dX11_sheet_80 q_dcN)) (show _ = some (84, [.ref 0, .int x1, .int x2, .int x3], [.int 0, .int x2, .int x1, .ref 69]) from rfl)).trans ?_
                    exact K_calV (d := d) (Y := mX11_sheet) (Z := mX6_lay) (vs := [.int x1, .int x2, .int 0]) (rest := []) (la := [.ref 69, .int x1, .int x2, .int 0, .retAddr 0]) dX11_sheet_84 rfl rfl rfl rfl ⟨by decide, rfl⟩ (Nat.le_of_ble_eq_true rfl) rfl (Nat.le_of_ble_eq_true rfl)
                  · rw [if_pos (show q_cc .ne x2 0 = true from decide_eq_true c34)]
                    refine Eq.trans ?_ (if_neg c34).symm
                    refine (q_blk (Y := mX11_sheet) (q_dcC dX11_sheet_83 q_dcN) (show _ = some (84, [.ref 0, .int x1, .int x2, .int x3], [.int x3, .int x2, .int x1, .ref 69]) from rfl)).trans ?_
                    exact K_calV (d := d) (Y := mX11_sheet) (Z := mX6_lay) (vs := [.int x1, .int x2, .int x3]) (rest := []) (la := [.ref 69, .int x1, .int x2, .int x3, .retAddr 0]) dX11_sheet_84 rfl rfl rfl rfl ⟨by decide, rfl⟩ (Nat.le_of_ble_eq_true rfl) rfl (Nat.le_of_ble_eq_true rfl)
                · rw [if_neg (show ¬ q_cc .le x3 24 = true from fun z => c33 (of_decide_eq_true z))]
                  refine Eq.trans ?_ (if_neg c33).symm
                  refine (q_blk (Y := mX11_sheet) (q_dcC dX11_sheet_63 (q_dcC dX11_sheet_64 q_dcN)) (show _ = some (65, [.ref 0, .int x1, .int x2, .int x3], [.int 1, .ref 0]) from rfl)).trans ?_
                  exact K_calV (d := d) (Y := mX11_sheet) (Z := mX11_finding) (vs := [.int 1]) (rest := []) (la := [.ref 0, .int 1]) dX11_sheet_65 rfl rfl rfl rfl ⟨by decide, rfl⟩ (Nat.le_of_ble_eq_true rfl) rfl (Nat.le_of_ble_eq_true rfl)
            · rw [if_neg (show ¬ q_cc .ge x3 0 = true from fun z => c30 (of_decide_eq_true z))]
              refine Eq.trans ?_ (if_neg c30).symm
              refine (q_blk (Y := mX11_sheet) (q_dcC dX11_sheet_47 (q_dcC dX11_sheet_48 q_dcN)) (show _ = some (49, [.ref 0, .int x1, .int x2, .int x3], [.int 3, .ref 0]) from rfl)).trans ?_
              exact K_calV (d := d) (Y := mX11_sheet) (Z := mX11_finding) (vs := [.int 3]) (rest := []) (la := [.ref 0, .int 3]) dX11_sheet_49 rfl rfl rfl rfl ⟨by decide, rfl⟩ (Nat.le_of_ble_eq_true rfl) rfl (Nat.le_of_ble_eq_true rfl)
        · rw [if_neg (show ¬ q_cc .eq x2 16 = true from fun z => c24 (of_decide_eq_true z))]
          refine Eq.trans ?_ (if_neg c24).symm
          refine (q_blk (Y := mX11_sheet) (q_dcC dX11_sheet_27 (q_dcC dX11_sheet_28 (q_dcC dX11_sheet_30 q_dcN))) (show _ = some ((if q_cc .eq x2 32 = true then 39 else 33), [.ref 0, .int x1, .int x2, .int x3], []) from rfl)).trans ?_
          by_cases c35 : x2 = 32
          · rw [if_pos (show q_cc .eq x2 32 = true from decide_eq_true c35)]
            refine Eq.trans ?_ (if_pos c35).symm
            refine (q_blk (Y := mX11_sheet) (q_dcC dX11_sheet_39 (q_dcC dX11_sheet_40 q_dcN)) (show _ = some ((if q_cc .eq x2 0 = true then 53 else 43), [.ref 0, .int x1, .int x2, .int x3], []) from rfl)).trans ?_
            by_cases c36 : x2 = 0
            · rw [if_pos (show q_cc .eq x2 0 = true from decide_eq_true c36)]
              refine Eq.trans ?_ (if_pos c36).symm
              refine (q_blk (Y := mX11_sheet) (q_dcC dX11_sheet_53 (q_dcC dX11_sheet_54 q_dcN)) (show _ = some ((if q_cc .eq x2 0 = true then 69 else 57), [.ref 0, .int x1, .int x2, .int x3], []) from rfl)).trans ?_
              by_cases c37 : x2 = 0
              · rw [if_pos (show q_cc .eq x2 0 = true from decide_eq_true c37)]
                refine Eq.trans ?_ (if_pos c37).symm
                refine (q_blk (Y := mX11_sheet) (q_dcC dX11_sheet_69 q_dcN) (show _ = some (70, [.ref 0, .int x1, .int x2, .int x3], [.ref 0]) from rfl)).trans ?_
                refine (k_getr (Y := mX11_sheet) dX11_sheet_70 rfl rfl ⟨by decide, rfl⟩ (by decide) rfl).trans ?_
                refine (q_blk (Y := mX11_sheet) (q_dcC dX11_sheet_73 (q_dcC dX11_sheet_74 (q_dcC dX11_sheet_75 (q_dcC dX11_sheet_76 q_dcN)))) (show _ = some ((if q_cc .ne x2 0 = true then 83 else 79), [.ref 0, .int x1, .int x2, .int x3], [.int x2, .int x1, .ref 69]) from rfl)).trans ?_
                by_cases c38 : x2 = 0
                · rw [if_neg (show ¬ q_cc .ne x2 0 = true from fun z => (of_decide_eq_true z : ¬ x2 = 0) c38)]
                  refine Eq.trans ?_ (if_pos c38).symm
                  refine (q_blk (Y := mX11_sheet) (q_dcC dX11_sheet_79 (q_dcC dX11_sheet_80 q_dcN)) (show _ = some (84, [.ref 0, .int x1, .int x2, .int x3], [.int 0, .int x2, .int x1, .ref 69]) from rfl)).trans ?_
                  exact K_calV (d := d) (Y := mX11_sheet) (Z := mX6_lay) (vs := [.int x1, .int x2, .int 0]) (rest := []) (la := [.ref 69, .int x1, .int x2, .int 0, .retAddr 0]) dX11_sheet_84 rfl rfl rfl rfl ⟨by decide, rfl⟩ (Nat.le_of_ble_eq_true rfl) rfl (Nat.le_of_ble_eq_true rfl)
                · rw [if_pos (show q_cc .ne x2 0 = true from decide_eq_true c38)]
                  refine Eq.trans ?_ (if_neg c38).symm
                  refine (q_blk (Y := mX11_sheet) (q_dcC dX11_sheet_83 q_dcN) (show _ = some (84, [.ref 0, .int x1, .int x2, .int x3], [.int x3, .int x2, .int x1, .ref 69]) from rfl)).trans ?_
                  exact K_calV (d := d) (Y := mX11_sheet) (Z := mX6_lay) (vs := [.int x1, .int x2, .int x3]) (rest := []) (la := [.ref 69, .int x1, .int x2, .int x3, .retAddr 0]) dX11_sheet_84 rfl rfl rfl rfl ⟨by decide, rfl⟩ (Nat.le_of_ble_eq_true rfl) rfl (Nat.le_of_ble_eq_true rfl)
              · rw [if_neg (show ¬ q_cc .eq x2 0 = true from fun z => c37 (of_decide_eq_true z))]
                refine Eq.trans ?_ (if_neg c37).symm
                refine (q_blk (Y := mX11_sheet) (q_dcC dX11_sheet_57 (q_dcC dX11_sheet_58 (q_dcC dX11_sheet_60 q_dcN))) (show _ = some ((if q_cc .le x3 24 = true then 69 else 63), [.ref 0, .int x1, .int x2, .int x3], []) from rfl)).trans ?_
                by_cases c39 : x3 ≤ 24
                · rw [if_pos (show q_cc .le x3 24 = true from decide_eq_true c39)]
                  refine Eq.trans ?_ (if_pos c39).symm
                  refine (q_blk (Y := mX11_sheet) (q_dcC dX11_sheet_69 q_dcN) (show _ = some (70, [.ref 0, .int x1, .int x2, .int x3], [.ref 0]) from rfl)).trans ?_
                  refine (k_getr (Y := mX11_sheet) dX11_sheet_70 rfl rfl ⟨by decide, rfl⟩ (by decide) rfl).trans ?_
                  refine (q_blk (Y := mX11_sheet) (q_dcC dX11_sheet_73 (q_dcC dX11_sheet_74 (q_dcC dX11_sheet_75 (q_dcC dX11_sheet_76 q_dcN)))) (show _ = some ((if q_cc .ne x2 0 = true then 83 else 79), [.ref 0, .int x1, .int x2, .int x3], [.int x2, .int x1, .ref 69]) from rfl)).trans ?_
                  by_cases c40 : x2 = 0
                  · rw [if_neg (show ¬ q_cc .ne x2 0 = true from fun z => (of_decide_eq_true z : ¬ x2 = 0) c40)]
                    refine Eq.trans ?_ (if_pos c40).symm
                    refine (q_blk (Y := mX11_sheet) (q_dcC dX11_sheet_79 (q_dcC dX11_sheet_80 q_dcN)) (show _ = some (84, [.ref 0, .int x1, .int x2, .int x3], [.int 0, .int x2, .int x1, .ref 69]) from rfl)).trans ?_
                    exact K_calV (d := d) (Y := mX11_sheet) (Z := mX6_lay) (vs := [.int x1, .int x2, .int 0]) (rest := []) (la := [.ref 69, .int x1, .int x2, .int 0, .retAddr 0]) dX11_sheet_84 rfl rfl rfl rfl ⟨by decide, rfl⟩ (Nat.le_of_ble_eq_true rfl) rfl (Nat.le_of_ble_eq_true rfl)
                  · rw [if_pos (show q_cc .ne x2 0 = true from decide_eq_true c40)]
                    refine Eq.trans ?_ (if_neg c40).symm
                    refine (q_blk (Y := mX11_sheet) (q_dcC dX11_sheet_83 q_dcN) (show _ = some (84, [.ref 0, .int x1, .int x2, .int x3], [.int x3, .int x2, .int x1, .ref 69]) from rfl)).trans ?_
                    exact K_calV (d := d) (Y := mX11_sheet) (Z := mX6_lay) (vs := [.int x1, .int x2, .int x3]) (rest := []) (la := [.ref 69, .int x1, .int x2, .int x3, .retAddr 0]) dX11_sheet_84 rfl rfl rfl rfl ⟨by decide, rfl⟩ (Nat.le_of_ble_eq_true rfl) rfl (Nat.le_of_ble_eq_true rfl)
                · rw [if_neg (show ¬ q_cc .le x3 24 = true from fun z => c39 (of_decide_eq_true z))]
                  refine Eq.trans ?_ (if_neg c39).symm
                  refine (q_blk (Y := mX11_sheet) (q_dcC dX11_sheet_63 (q_dcC dX11_sheet_64 q_dcN)) (show _ = some (65, [.ref 0, .int x1, .int x2, .int x3], [.int 1, .ref 0]) from rfl)).trans ?_
                  exact K_calV (d := d) (Y := mX11_sheet) (Z := mX11_finding) (vs := [.int 1]) (rest := []) (la := [.ref 0, .int 1]) dX11_sheet_65 rfl rfl rfl rfl ⟨by decide, rfl⟩ (Nat.le_of_ble_eq_true rfl) rfl (Nat.le_of_ble_eq_true rfl)
            · rw [if_neg (show ¬ q_cc .eq x2 0 = true from fun z => c36 (of_decide_eq_true z))]
              refine Eq.trans ?_ (if_neg c36).symm
              refine (q_blk (Y := mX11_sheet) (q_dcC dX11_sheet_43 (q_dcC dX11_sheet_44 q_dcN)) (show _ = some ((if q_cc .ge x3 0 = true then 53 else 47), [.ref 0, .int x1, .int x2, .int x3], []) from rfl)).trans ?_
              by_cases c41 : 0 ≤ x3
              · rw [if_pos (show q_cc .ge x3 0 = true from decide_eq_true c41)]
                refine Eq.trans ?_ (if_pos c41).symm
                refine (q_blk (Y := mX11_sheet) (q_dcC dX11_sheet_53 (q_dcC dX11_sheet_54 q_dcN)) (show _ = some ((if q_cc .eq x2 0 = true then 69 else 57), [.ref 0, .int x1, .int x2, .int x3], []) from rfl)).trans ?_
                by_cases c42 : x2 = 0
                · rw [if_pos (show q_cc .eq x2 0 = true from decide_eq_true c42)]
                  refine Eq.trans ?_ (if_pos c42).symm
                  refine (q_blk (Y := mX11_sheet) (q_dcC dX11_sheet_69 q_dcN) (show _ = some (70, [.ref 0, .int x1, .int x2, .int x3], [.ref 0]) from rfl)).trans ?_
                  refine (k_getr (Y := mX11_sheet) dX11_sheet_70 rfl rfl ⟨by decide, rfl⟩ (by decide) rfl).trans ?_
                  refine (q_blk (Y := mX11_sheet) (q_dcC dX11_sheet_73 (q_dcC dX11_sheet_74 (q_dcC dX11_sheet_75 (q_dcC dX11_sheet_76 q_dcN)))) (show _ = some ((if q_cc .ne x2 0 = true then 83 else 79), [.ref 0, .int x1, .int x2, .int x3], [.int x2, .int x1, .ref 69]) from rfl)).trans ?_
                  by_cases c43 : x2 = 0
                  · rw [if_neg (show ¬ q_cc .ne x2 0 = true from fun z => (of_decide_eq_true z : ¬ x2 = 0) c43)]
                    refine Eq.trans ?_ (if_pos c43).symm
                    refine (q_blk (Y := mX11_sheet) (q_dcC dX11_sheet_79 (q_dcC dX11_sheet_80 q_dcN)) (show _ = some (84, [.ref 0, .int x1, .int x2, .int x3], [.int 0, .int x2, .int x1, .ref 69]) from rfl)).trans ?_
                    exact K_calV (d := d) (Y := mX11_sheet) (Z := mX6_lay) (vs := [.int x1, .int x2, .int 0]) (rest := []) (la := [.ref 69, .int x1, .int x2, .int 0, .retAddr 0]) dX11_sheet_84 rfl rfl rfl rfl ⟨by decide, rfl⟩ (Nat.le_of_ble_eq_true rfl) rfl (Nat.le_of_ble_eq_true rfl)
                  · rw [if_pos (show q_cc .ne x2 0 = true from decide_eq_true c43)]
                    refine Eq.trans ?_ (if_neg c43).symm
                    refine (q_blk (Y := mX11_sheet) (q_dcC dX11_sheet_83 q_dcN) (show _ = some (84, [.ref 0, .int x1, .int x2, .int x3], [.int x3, .int x2, .int x1, .ref 69]) from rfl)).trans ?_
                    exact K_calV (d := d) (Y := mX11_sheet) (Z := mX6_lay) (vs := [.int x1, .int x2, .int x3]) (rest := []) (la := [.ref 69, .int x1, .int x2, .int x3, .retAddr 0]) dX11_sheet_84 rfl rfl rfl rfl ⟨by decide, rfl⟩ (Nat.le_of_ble_eq_true rfl) rfl (Nat.le_of_ble_eq_true rfl)
                · rw [if_neg (show ¬ q_cc .eq x2 0 = true from fun z => c42 (of_decide_eq_true z))]
                  refine Eq.trans ?_ (if_neg c42).symm
                  refine (q_blk (Y := mX11_sheet) (q_dcC dX11_sheet_57 (q_dcC dX11_sheet_58 (q_dcC dX11_sheet_60 q_dcN))) (show _ = some ((if q_cc .le x3 24 = true then 69 else 63), [.ref 0, .int x1, .int x2, .int x3], []) from rfl)).trans ?_
                  by_cases c44 : x3 ≤ 24
                  · rw [if_pos (show q_cc .le x3 24 = true from decide_eq_true c44)]
                    refine Eq.trans ?_ (if_pos c44).symm
                    refine (q_blk (Y := mX11_sheet) (q_dcC dX11_sheet_69 q_dcN) (show _ = some (70, [.ref 0, .int x1, .int x2, .int x3], [.ref 0]) from rfl)).trans ?_
                    refine (k_getr (Y := mX11_sheet) dX11_sheet_70 rfl rfl ⟨by decide, rfl⟩ (by decide) rfl).trans ?_
                    refine (q_blk (Y := mX11_sheet) (q_dcC dX11_sheet_73 (q_dcC dX11_sheet_74 (q_dcC dX11_sheet_75 (q_dcC dX11_sheet_76 q_dcN)))) (show _ = some ((if q_cc .ne x2 0 = true then 83 else 79), [.ref 0, .int x1, .int x2, .int x3], [.int x2, .int x1, .ref 69]) from rfl)).trans ?_
                    by_cases c45 : x2 = 0
                    · rw [if_neg (show ¬ q_cc .ne x2 0 = true from fun z => (of_decide_eq_true z : ¬ x2 = 0) c45)]
                      refine Eq.trans ?_ (if_pos c45).symm
                      refine (q_blk (Y := mX11_sheet) (q_dcC dX11_sheet_79 (q_dcC dX11_sheet_80 q_dcN)) (show _ = some (84, [.ref 0, .int x1, .int x2, .int x3], [.int 0, .int x2, .int x1, .ref 69]) from rfl)).trans ?_
                      exact K_calV (d := d) (Y := mX11_sheet) (Z := mX6_lay) (vs := [.int x1, .int x2, .int 0]) (rest := []) (la := [.ref 69, .int x1, .int x2, .int 0, .retAddr 0]) dX11_sheet_84 rfl rfl rfl rfl ⟨by decide, rfl⟩ (Nat.le_of_ble_eq_true rfl) rfl (Nat.le_of_ble_eq_true rfl)
                    · rw [if_pos (show q_cc .ne x2 0 = true from decide_eq_true c45)]
                      refine Eq.trans ?_ (if_neg c45).symm
                      refine (q_blk (Y := mX11_sheet) (q_dcC dX11_sheet_83 q_dcN) (show _ = some (84, [.ref 0, .int x1, .int x2, .int x3], [.int x3, .int x2, .int x1, .ref 69]) from rfl)).trans ?_
                      exact K_calV (d := d) (Y := mX11_sheet) (Z := mX6_lay) (vs := [.int x1, .int x2, .int x3]) (rest := []) (la := [.ref 69, .int x1, .int x2, .int x3, .retAddr 0]) dX11_sheet_84 rfl rfl rfl rfl ⟨by decide, rfl⟩ (Nat.le_of_ble_eq_true rfl) rfl (Nat.le_of_ble_eq_true rfl)
                  · rw [if_neg (show ¬ q_cc .le x3 24 = true from fun z => c44 (of_decide_eq_true z))]
                    refine Eq.trans ?_ (if_neg c44).symm
                    refine (q_blk (Y := mX11_sheet) (q_dcC dX11_sheet_63 (q_dcC dX11_sheet_64 q_dcN)) (show _ = some (65, [.ref 0, .int x1, .int x2, .int x3], [.int 1, .ref 0]) from rfl)).trans ?_
                    exact K_calV (d := d) (Y := mX11_sheet) (Z := mX11_finding) (vs := [.int 1]) (rest := []) (la := [.ref 0, .int 1]) dX11_sheet_65 rfl rfl rfl rfl ⟨by decide, rfl⟩ (Nat.le_of_ble_eq_true rfl) rfl (Nat.le_of_ble_eq_true rfl)
              · rw [if_neg (show ¬ q_cc .ge x3 0 = true from fun z => c41 (of_decide_eq_true z))]
                refine Eq.trans ?_ (if_neg c41).symm
                refine (q_blk (Y := mX11_sheet) (q_dcC dX11_sheet_47 (q_dcC dX11_sheet_48 q_dcN)) (show _ = some (49, [.ref 0, .int x1, .int x2, .int x3], [.int 3, .ref 0]) from rfl)).trans ?_
                exact K_calV (d := d) (Y := mX11_sheet) (Z := mX11_finding) (vs := [.int 3]) (rest := []) (la := [.ref 0, .int 3]) dX11_sheet_49 rfl rfl rfl rfl ⟨by decide, rfl⟩ (Nat.le_of_ble_eq_true rfl) rfl (Nat.le_of_ble_eq_true rfl)
          · rw [if_neg (show ¬ q_cc .eq x2 32 = true from fun z => c35 (of_decide_eq_true z))]
            refine Eq.trans ?_ (if_neg c35).symm
            refine (q_blk (Y := mX11_sheet) (q_dcC dX11_sheet_33 (q_dcC dX11_sheet_34 q_dcN)) (show _ = some (35, [.ref 0, .int x1, .int x2, .int x3], [.int 1, .ref 0]) from rfl)).trans ?_
            exact K_calV (d := d) (Y := mX11_sheet) (Z := mX11_finding) (vs := [.int 1]) (rest := []) (la := [.ref 0, .int 1]) dX11_sheet_35 rfl rfl rfl rfl ⟨by decide, rfl⟩ (Nat.le_of_ble_eq_true rfl) rfl (Nat.le_of_ble_eq_true rfl)
theorem B_X11_sheet_38 {o : q_H} (d : Nat) (x1 x2 x3 y0 : Int32) (g : Nat → Nat → Int32) : q_sem (d) mX11_sheet 38 [.ref 0, .int x1, .int x2, .int x3] [.int y0] (q_K o g) = some (some (.int y0), q_K o g) := by
  exact k_iret (Y := mX11_sheet) dX11_sheet_38 rfl
theorem B_X11_sheet_87 {o : q_H} (d : Nat) (x1 x2 x3 : Int32) (g : Nat → Nat → Int32) : q_sem (d) mX11_sheet 87 [.ref 0, .int x1, .int x2, .int x3] [] (q_K o g) = some (some (.int 1), q_K o g) := by
  refine (q_blk (Y := mX11_sheet) (q_dcC dX11_sheet_87 q_dcN) (show _ = some (88, [.ref 0, .int x1, .int x2, .int x3], [.int 1]) from rfl)).trans ?_
  exact k_iret (Y := mX11_sheet) dX11_sheet_88 rfl
theorem B_X11_sheet_68 {o : q_H} (d : Nat) (x1 x2 x3 y0 : Int32) (g : Nat → Nat → Int32) : q_sem (d) mX11_sheet 68 [.ref 0, .int x1, .int x2, .int x3] [.int y0] (q_K o g) = some (some (.int y0), q_K o g) := by
  exact k_iret (Y := mX11_sheet) dX11_sheet_68 rfl
theorem B_X11_sheet_52 {o : q_H} (d : Nat) (x1 x2 x3 y0 : Int32) (g : Nat → Nat → Int32) : q_sem (d) mX11_sheet 52 [.ref 0, .int x1, .int x2, .int x3] [.int y0] (q_K o g) = some (some (.int y0), q_K o g) := by
  exact k_iret (Y := mX11_sheet) dX11_sheet_52 rfl
theorem B_X11_put_0 {o : q_H} (d : Nat) (x1 x2 x3 : Int32) (g : Nat → Nat → Int32) : q_sem (d + 1) mX11_put 0 [.ref 0, .int x1, .int x2, .int x3, .retAddr 0] [] (q_K o g) = (q_sem d mX6_wanting 0 [.ref 69, .int x1] [] (q_K o g)).bind (fun r => q_sem (d + 1) mX11_put 8 [.ref 0, .int x1, .int x2, .int x3, .retAddr 0] (r.1.toList ++ []) r.2) := by
  refine (q_blk (Y := mX11_put) (q_dcC dX11_put_0 q_dcN) (show _ = some (1, [.ref 0, .int x1, .int x2, .int x3, .retAddr 0], [.ref 0]) from rfl)).trans ?_
  refine (k_getr (Y := mX11_put) dX11_put_1 rfl rfl ⟨by decide, rfl⟩ (by decide) rfl).trans ?_
  refine (q_blk (Y := mX11_put) (q_dcC dX11_put_4 q_dcN) (show _ = some (5, [.ref 0, .int x1, .int x2, .int x3, .retAddr 0], [.int x1, .ref 69]) from rfl)).trans ?_
  exact K_calV (d := d) (Y := mX11_put) (Z := mX6_wanting) (vs := [.int x1]) (rest := []) (la := [.ref 69, .int x1]) dX11_put_5 rfl rfl rfl rfl ⟨by decide, rfl⟩ (Nat.le_of_ble_eq_true rfl) rfl (Nat.le_of_ble_eq_true rfl)
theorem B_X11_put_8 {o : q_H} (d : Nat) (x1 x2 x3 y0 : Int32) (g : Nat → Nat → Int32) : q_sem (d + 1) mX11_put 8 [.ref 0, .int x1, .int x2, .int x3, .retAddr 0] [.int y0] (q_K o g) = (if y0 = 0 then (q_sem d mX6_size 0 [.ref 69, .int x1] [] (q_K o g)).bind (fun r => q_sem (d + 1) mX11_put 32 [.ref 0, .int x1, .int x2, .int x3, .int y0] (r.1.toList ++ [.int 0, .int x2]) r.2) else (q_sem d mX11_finding 0 [.ref 0, .int y0] [] (q_K o g)).bind (fun r => q_sem (d + 1) mX11_put 21 [.ref 0, .int x1, .int x2, .int x3, .int y0] (r.1.toList ++ []) r.2)) := by
  refine (q_blk (Y := mX11_put) (q_dcC dX11_put_8 (q_dcC dX11_put_10 (q_dcC dX11_put_12 q_dcN))) (show _ = some ((if q_cc .eq y0 0 = true then 22 else 15), [.ref 0, .int x1, .int x2, .int x3, .int y0], []) from rfl)).trans ?_
  by_cases c1 : y0 = 0
  · rw [if_pos (show q_cc .eq y0 0 = true from decide_eq_true c1)]
    refine Eq.trans ?_ (if_pos c1).symm
    refine (q_blk (Y := mX11_put) (q_dcC dX11_put_22 (q_dcC dX11_put_23 (q_dcC dX11_put_24 q_dcN))) (show _ = some (25, [.ref 0, .int x1, .int x2, .int x3, .int y0], [.ref 0, .int 0, .int x2]) from rfl)).trans ?_
    refine (k_getr (Y := mX11_put) dX11_put_25 rfl rfl ⟨by decide, rfl⟩ (by decide) rfl).trans ?_
    refine (q_blk (Y := mX11_put) (q_dcC dX11_put_28 q_dcN) (show _ = some (29, [.ref 0, .int x1, .int x2, .int x3, .int y0], [.int x1, .ref 69, .int 0, .int x2]) from rfl)).trans ?_
    exact K_calV (d := d) (Y := mX11_put) (Z := mX6_size) (vs := [.int x1]) (rest := [.int 0, .int x2]) (la := [.ref 69, .int x1]) dX11_put_29 rfl rfl rfl rfl ⟨by decide, rfl⟩ (Nat.le_of_ble_eq_true rfl) rfl (Nat.le_of_ble_eq_true rfl)
  · rw [if_neg (show ¬ q_cc .eq y0 0 = true from fun z => c1 (of_decide_eq_true z))]
    refine Eq.trans ?_ (if_neg c1).symm
    refine (q_blk (Y := mX11_put) (q_dcC dX11_put_15 (q_dcC dX11_put_16 q_dcN)) (show _ = some (18, [.ref 0, .int x1, .int x2, .int x3, .int y0], [.int y0, .ref 0]) from rfl)).trans ?_
    exact K_calV (d := d) (Y := mX11_put) (Z := mX11_finding) (vs := [.int y0]) (rest := []) (la := [.ref 0, .int y0]) dX11_put_18 rfl rfl rfl rfl ⟨by decide, rfl⟩ (Nat.le_of_ble_eq_true rfl) rfl (Nat.le_of_ble_eq_true rfl)
theorem B_X11_put_32 {o : q_H} (d : Nat) (x1 x2 x3 x4 y0 y1 y2 : Int32) (g : Nat → Nat → Int32) : q_sem (d + 1) mX11_put 32 [.ref 0, .int x1, .int x2, .int x3, .int x4] [.int y0, .int y1, .int y2] (q_K o g) = (q_sem d mX11_within 0 [.int y2, .int y1, .int (y0 - 1)] [] (q_K o g)).bind (fun r => q_sem (d + 1) mX11_put 37 [.ref 0, .int x1, .int x2, .int x3, .int x4] (r.1.toList ++ []) r.2) := by
  refine (q_blk (Y := mX11_put) (q_dcC dX11_put_32 (q_dcC dX11_put_33 q_dcN)) (show _ = some (34, [.ref 0, .int x1, .int x2, .int x3, .int x4], [.int (y0 - 1), .int y1, .int y2]) from rfl)).trans ?_
  exact K_calS (d := d) (Y := mX11_put) (Z := mX11_within) (vs := [.int y2, .int y1, .int (y0 - 1)]) (rest := []) (la := [.int y2, .int y1, .int (y0 - 1)]) dX11_put_34 rfl rfl rfl rfl (Nat.le_of_ble_eq_true rfl) rfl (Nat.le_of_ble_eq_true rfl)
theorem B_X11_put_21 {o : q_H} (d : Nat) (x1 x2 x3 x4 y0 : Int32) (g : Nat → Nat → Int32) : q_sem (d) mX11_put 21 [.ref 0, .int x1, .int x2, .int x3, .int x4] [.int y0] (q_K o g) = some (some (.int y0), q_K o g) := by
  exact k_iret (Y := mX11_put) dX11_put_21 rfl
theorem B_X11_put_37 {o : q_H} (d : Nat) (x1 x2 x3 x4 y0 : Int32) (g : Nat → Nat → Int32) : q_sem (d + 1) mX11_put 37 [.ref 0, .int x1, .int x2, .int x3, .int x4] [.int y0] (q_K o g) = (if y0 = 0 then (q_sem d mX11_finding 0 [.ref 0, .int 1] [] (q_K o g)).bind (fun r => q_sem (d + 1) mX11_put 45 [.ref 0, .int x1, .int x2, .int x3, .int x4] (r.1.toList ++ []) r.2) else (q_sem d mX6_write 0 [.ref 69, .int x1, .int x2, .int x3, .retAddr 0] [] (q_K o g)).bind (fun r => q_sem (d + 1) mX11_put 56 [.ref 0, .int x1, .int x2, .int x3, .int x4] (r.1.toList ++ []) r.2)) := by
  refine (q_blk (Y := mX11_put) (q_dcC dX11_put_37 q_dcN) (show _ = some ((if q_cc .ne y0 0 = true then 46 else 40), [.ref 0, .int x1, .int x2, .int x3, .int x4], []) from rfl)).trans ?_
  by_cases c1 : y0 = 0
  · rw [if_neg (show ¬ q_cc .ne y0 0 = true from fun z => (of_decide_eq_true z : ¬ y0 = 0) c1)]
    refine Eq.trans ?_ (if_pos c1).symm
    refine (q_blk (Y := mX11_put) (q_dcC dX11_put_40 (q_dcC dX11_put_41 q_dcN)) (show _ = some (42, [.ref 0, .int x1, .int x2, .int x3, .int x4], [.int 1, .ref 0]) from rfl)).trans ?_
    exact K_calV (d := d) (Y := mX11_put) (Z := mX11_finding) (vs := [.int 1]) (rest := []) (la := [.ref 0, .int 1]) dX11_put_42 rfl rfl rfl rfl ⟨by decide, rfl⟩ (Nat.le_of_ble_eq_true rfl) rfl (Nat.le_of_ble_eq_true rfl)
  · rw [if_pos (show q_cc .ne y0 0 = true from decide_eq_true c1)]
    refine Eq.trans ?_ (if_neg c1).symm
    refine (q_blk (Y := mX11_put) (q_dcC dX11_put_46 q_dcN) (show _ = some (47, [.ref 0, .int x1, .int x2, .int x3, .int x4], [.ref 0]) from rfl)).trans ?_
    refine (k_getr (Y := mX11_put) dX11_put_47 rfl rfl ⟨by decide, rfl⟩ (by decide) rfl).trans ?_
    refine (q_blk (Y := mX11_put) (q_dcC dX11_put_50 (q_dcC dX11_put_51 (q_dcC dX11_put_52 q_dcN))) (show _ = some (53, [.ref 0, .int x1, .int x2, .int x3, .int x4], [.int x3, .int x2, .int x1, .ref 69]) from rfl)).trans ?_
    exact K_calV (d := d) (Y := mX11_put) (Z := mX6_write) (vs := [.int x1, .int x2, .int x3]) (rest := []) (la := [.ref 69, .int x1, .int x2, .int x3, .retAddr 0]) dX11_put_53 rfl rfl rfl rfl ⟨by decide, rfl⟩ (Nat.le_of_ble_eq_true rfl) rfl (Nat.le_of_ble_eq_true rfl)
theorem B_X11_put_45 {o : q_H} (d : Nat) (x1 x2 x3 x4 y0 : Int32) (g : Nat → Nat → Int32) : q_sem (d) mX11_put 45 [.ref 0, .int x1, .int x2, .int x3, .int x4] [.int y0] (q_K o g) = some (some (.int y0), q_K o g) := by
  exact k_iret (Y := mX11_put) dX11_put_45 rfl
theorem B_X11_put_56 {o : q_H} (d : Nat) (x1 x2 x3 x4 : Int32) (g : Nat → Nat → Int32) : q_sem (d) mX11_put 56 [.ref 0, .int x1, .int x2, .int x3, .int x4] [] (q_K o g) = some (some (.int 1), q_K o g) := by
  refine (q_blk (Y := mX11_put) (q_dcC dX11_put_56 q_dcN) (show _ = some (57, [.ref 0, .int x1, .int x2, .int x3, .int x4], [.int 1]) from rfl)).trans ?_
  exact k_iret (Y := mX11_put) dX11_put_57 rfl
theorem B_X11_move_0 {o : q_H} (d : Nat) (x1 x2 x3 x4 x5 : Int32) (g : Nat → Nat → Int32) : q_sem (d + 1) mX11_move 0 [.ref 0, .int x1, .int x2, .int x3, .int x4, .int x5] [] (q_K o g) = (q_sem d mX6_has 0 [.ref 69, .int x1] [] (q_K o g)).bind (fun r => q_sem (d + 1) mX11_move 8 [.ref 0, .int x1, .int x2, .int x3, .int x4, .int x5] (r.1.toList ++ []) r.2) := by
  refine (q_blk (Y := mX11_move) (q_dcC dX11_move_0 q_dcN) (show _ = some (1, [.ref 0, .int x1, .int x2, .int x3, .int x4, .int x5], [.ref 0]) from rfl)).trans ?_
  refine (k_getr (Y := mX11_move) dX11_move_1 rfl rfl ⟨by decide, rfl⟩ (by decide) rfl).trans ?_
  refine (q_blk (Y := mX11_move) (q_dcC dX11_move_4 q_dcN) (show _ = some (5, [.ref 0, .int x1, .int x2, .int x3, .int x4, .int x5], [.int x1, .ref 69]) from rfl)).trans ?_
  exact K_calV (d := d) (Y := mX11_move) (Z := mX6_has) (vs := [.int x1]) (rest := []) (la := [.ref 69, .int x1]) dX11_move_5 rfl rfl rfl rfl ⟨by decide, rfl⟩ (Nat.le_of_ble_eq_true rfl) rfl (Nat.le_of_ble_eq_true rfl)
theorem B_X11_move_8 {o : q_H} (d : Nat) (x1 x2 x3 x4 x5 y0 : Int32) (g : Nat → Nat → Int32) : q_sem (d + 1) mX11_move 8 [.ref 0, .int x1, .int x2, .int x3, .int x4, .int x5] [.int y0] (q_K o g) = (if y0 = 0 then (q_sem d mX11_finding 0 [.ref 0, .int 1] [] (q_K o g)).bind (fun r => q_sem (d + 1) mX11_move 27 [.ref 0, .int x1, .int x2, .int x3, .int x4, .int x5] (r.1.toList ++ []) r.2) else (q_sem d mX6_has 0 [.ref 69, .int x3] [] (q_K o g)).bind (fun r => q_sem (d + 1) mX11_move 19 [.ref 0, .int x1, .int x2, .int x3, .int x4, .int x5] (r.1.toList ++ []) r.2)) := by
  refine (q_blk (Y := mX11_move) (q_dcC dX11_move_8 q_dcN) (show _ = some ((if q_cc .eq y0 0 = true then 22 else 11), [.ref 0, .int x1, .int x2, .int x3, .int x4, .int x5], []) from rfl)).trans ?_
  by_cases c1 : y0 = 0
  · rw [if_pos (show q_cc .eq y0 0 = true from decide_eq_true c1)]
    refine Eq.trans ?_ (if_pos c1).symm
    refine (q_blk (Y := mX11_move) (q_dcC dX11_move_22 (q_dcC dX11_move_23 q_dcN)) (show _ = some (24, [.ref 0, .int x1, .int x2, .int x3, .int x4, .int x5], [.int 1, .ref 0]) from rfl)).trans ?_
    exact K_calV (d := d) (Y := mX11_move) (Z := mX11_finding) (vs := [.int 1]) (rest := []) (la := [.ref 0, .int 1]) dX11_move_24 rfl rfl rfl rfl ⟨by decide, rfl⟩ (Nat.le_of_ble_eq_true rfl) rfl (Nat.le_of_ble_eq_true rfl)
  · rw [if_neg (show ¬ q_cc .eq y0 0 = true from fun z => c1 (of_decide_eq_true z))]
    refine Eq.trans ?_ (if_neg c1).symm
    refine (q_blk (Y := mX11_move) (q_dcC dX11_move_11 q_dcN) (show _ = some (12, [.ref 0, .int x1, .int x2, .int x3, .int x4, .int x5], [.ref 0]) from rfl)).trans ?_
    refine (k_getr (Y := mX11_move) dX11_move_12 rfl rfl ⟨by decide, rfl⟩ (by decide) rfl).trans ?_
    refine (q_blk (Y := mX11_move) (q_dcC dX11_move_15 q_dcN) (show _ = some (16, [.ref 0, .int x1, .int x2, .int x3, .int x4, .int x5], [.int x3, .ref 69]) from rfl)).trans ?_
    exact K_calV (d := d) (Y := mX11_move) (Z := mX6_has) (vs := [.int x3]) (rest := []) (la := [.ref 69, .int x3]) dX11_move_16 rfl rfl rfl rfl ⟨by decide, rfl⟩ (Nat.le_of_ble_eq_true rfl) rfl (Nat.le_of_ble_eq_true rfl)
theorem B_X11_move_27 {o : q_H} (d : Nat) (x1 x2 x3 x4 x5 y0 : Int32) (g : Nat → Nat → Int32) : q_sem (d) mX11_move 27 [.ref 0, .int x1, .int x2, .int x3, .int x4, .int x5] [.int y0] (q_K o g) = some (some (.int y0), q_K o g) := by
  exact k_iret (Y := mX11_move) dX11_move_27 rfl
theorem B_X11_move_19 {o : q_H} (d : Nat) (x1 x2 x3 x4 x5 y0 : Int32) (g : Nat → Nat → Int32) : q_sem (d + 1) mX11_move 19 [.ref 0, .int x1, .int x2, .int x3, .int x4, .int x5] [.int y0] (q_K o g) = (if y0 = 0 then (q_sem d mX11_finding 0 [.ref 0, .int 1] [] (q_K o g)).bind (fun r => q_sem (d + 1) mX11_move 27 [.ref 0, .int x1, .int x2, .int x3, .int x4, .int x5] (r.1.toList ++ []) r.2) else (q_sem d mX6_wanting 0 [.ref 69, .int x1] [] (q_K o g)).bind (fun r => q_sem (d + 1) mX11_move 36 [.ref 0, .int x1, .int x2, .int x3, .int x4, .int x5] (r.1.toList ++ []) r.2)) := by
  refine (q_blk (Y := mX11_move) (q_dcC dX11_move_19 q_dcN) (show _ = some ((if q_cc .ne y0 0 = true then 28 else 22), [.ref 0, .int x1, .int x2, .int x3, .int x4, .int x5], []) from rfl)).trans ?_
  by_cases c1 : y0 = 0
  · rw [if_neg (show ¬ q_cc .ne y0 0 = true from fun z => (of_decide_eq_true z : ¬ y0 = 0) c1)]
    refine Eq.trans ?_ (if_pos c1).symm
    refine (q_blk (Y := mX11_move) (q_dcC dX11_move_22 (q_dcC dX11_move_23 q_dcN)) (show _ = some (24, [.ref 0, .int x1, .int x2, .int x3, .int x4, .int x5], [.int 1, .ref 0]) from rfl)).trans ?_
    exact K_calV (d := d) (Y := mX11_move) (Z := mX11_finding) (vs := [.int 1]) (rest := []) (la := [.ref 0, .int 1]) dX11_move_24 rfl rfl rfl rfl ⟨by decide, rfl⟩ (Nat.le_of_ble_eq_true rfl) rfl (Nat.le_of_ble_eq_true rfl)
  · rw [if_pos (show q_cc .ne y0 0 = true from decide_eq_true c1)]
    refine Eq.trans ?_ (if_neg c1).symm
    refine (q_blk (Y := mX11_move) (q_dcC dX11_move_28 q_dcN) (show _ = some (29, [.ref 0, .int x1, .int x2, .int x3, .int x4, .int x5], [.ref 0]) from rfl)).trans ?_
    refine (k_getr (Y := mX11_move) dX11_move_29 rfl rfl ⟨by decide, rfl⟩ (by decide) rfl).trans ?_
    refine (q_blk (Y := mX11_move) (q_dcC dX11_move_32 q_dcN) (show _ = some (33, [.ref 0, .int x1, .int x2, .int x3, .int x4, .int x5], [.int x1, .ref 69]) from rfl)).trans ?_
    exact K_calV (d := d) (Y := mX11_move) (Z := mX6_wanting) (vs := [.int x1]) (rest := []) (la := [.ref 69, .int x1]) dX11_move_33 rfl rfl rfl rfl ⟨by decide, rfl⟩ (Nat.le_of_ble_eq_true rfl) rfl (Nat.le_of_ble_eq_true rfl)
theorem B_X11_move_36 {o : q_H} (d : Nat) (x1 x2 x3 x4 x5 y0 : Int32) (g : Nat → Nat → Int32) : q_sem (d + 1) mX11_move 36 [.ref 0, .int x1, .int x2, .int x3, .int x4, .int x5] [.int y0] (q_K o g) = (if y0 = 0 then (q_sem d mX6_wanting 0 [.ref 69, .int x3] [] (q_K o g)).bind (fun r => q_sem (d + 1) mX11_move 47 [.ref 0, .int x1, .int x2, .int x3, .int x4, .int x5] (r.1.toList ++ []) r.2) else (q_sem d mX11_finding 0 [.ref 0, .int 2] [] (q_K o g)).bind (fun r => q_sem (d + 1) mX11_move 55 [.ref 0, .int x1, .int x2, .int x3, .int x4, .int x5] (r.1.toList ++ []) r.2)) := by
  refine (q_blk (Y := mX11_move) (q_dcC dX11_move_36 q_dcN) (show _ = some ((if q_cc .ne y0 0 = true then 50 else 39), [.ref 0, .int x1, .int x2, .int x3, .int x4, .int x5], []) from rfl)).trans ?_
  by_cases c1 : y0 = 0
  · rw [if_neg (show ¬ q_cc .ne y0 0 = true from fun z => (of_decide_eq_true z : ¬ y0 = 0) c1)]
    refine Eq.trans ?_ (if_pos c1).symm
    refine (q_blk (Y := mX11_move) (q_dcC dX11_move_39 q_dcN) (show _ = some (40, [.ref 0, .int x1, .int x2, .int x3, .int x4, .int x5], [.ref 0]) from rfl)).trans ?_
    refine (k_getr (Y := mX11_move) dX11_move_40 rfl rfl ⟨by decide, rfl⟩ (by decide) rfl).trans ?_
    refine (q_blk (Y := mX11_move) (q_dcC dX11_move_43 q_dcN) (show _ = some (44, [.ref 0, .int x1, .int x2, .int x3, .int x4, .int x5], [.int x3, .ref 69]) from rfl)).trans ?_
    exact K_calV (d := d) (Y := mX11_move) (Z := mX6_wanting) (vs := [.int x3]) (rest := []) (la := [.ref 69, .int x3]) dX11_move_44 rfl rfl rfl rfl ⟨by decide, rfl⟩ (Nat.le_of_ble_eq_true rfl) rfl (Nat.le_of_ble_eq_true rfl)
  · rw [if_pos (show q_cc .ne y0 0 = true from decide_eq_true c1)]
    refine Eq.trans ?_ (if_neg c1).symm
    refine (q_blk (Y := mX11_move) (q_dcC dX11_move_50 (q_dcC dX11_move_51 q_dcN)) (show _ = some (52, [.ref 0, .int x1, .int x2, .int x3, .int x4, .int x5], [.int 2, .ref 0]) from rfl)).trans ?_
    exact K_calV (d := d) (Y := mX11_move) (Z := mX11_finding) (vs := [.int 2]) (rest := []) (la := [.ref 0, .int 2]) dX11_move_52 rfl rfl rfl rfl ⟨by decide, rfl⟩ (Nat.le_of_ble_eq_true rfl) rfl (Nat.le_of_ble_eq_true rfl)
theorem B_X11_move_47 {o : q_H} (d : Nat) (x1 x2 x3 x4 x5 y0 : Int32) (g : Nat → Nat → Int32) : q_sem (d + 1) mX11_move 47 [.ref 0, .int x1, .int x2, .int x3, .int x4, .int x5] [.int y0] (q_K o g) = (if y0 = 0 then (q_sem d mX6_bits 0 [.ref 69, .int x1] [] (q_K o g)).bind (fun r => q_sem (d + 1) mX11_move 64 [.ref 0, .int x1, .int x2, .int x3, .int x4, .int x5] (r.1.toList ++ []) r.2) else (q_sem d mX11_finding 0 [.ref 0, .int 2] [] (q_K o g)).bind (fun r => q_sem (d + 1) mX11_move 55 [.ref 0, .int x1, .int x2, .int x3, .int x4, .int x5] (r.1.toList ++ []) r.2)) := by
  refine (q_blk (Y := mX11_move) (q_dcC dX11_move_47 q_dcN) (show _ = some ((if q_cc .eq y0 0 = true then 56 else 50), [.ref 0, .int x1, .int x2, .int x3, .int x4, .int x5], []) from rfl)).trans ?_
  by_cases c1 : y0 = 0
  · rw [if_pos (show q_cc .eq y0 0 = true from decide_eq_true c1)]
    refine Eq.trans ?_ (if_pos c1).symm
    refine (q_blk (Y := mX11_move) (q_dcC dX11_move_56 q_dcN) (show _ = some (57, [.ref 0, .int x1, .int x2, .int x3, .int x4, .int x5], [.ref 0]) from rfl)).trans ?_
    refine (k_getr (Y := mX11_move) dX11_move_57 rfl rfl ⟨by decide, rfl⟩ (by decide) rfl).trans ?_
    refine (q_blk (Y := mX11_move) (q_dcC dX11_move_60 q_dcN) (show _ = some (61, [.ref 0, .int x1, .int x2, .int x3, .int x4, .int x5], [.int x1, .ref 69]) from rfl)).trans ?_
    exact K_calV (d := d) (Y := mX11_move) (Z := mX6_bits) (vs := [.int x1]) (rest := []) (la := [.ref 69, .int x1]) dX11_move_61 rfl rfl rfl rfl ⟨by decide, rfl⟩ (Nat.le_of_ble_eq_true rfl) rfl (Nat.le_of_ble_eq_true rfl)
  · rw [if_neg (show ¬ q_cc .eq y0 0 = true from fun z => c1 (of_decide_eq_true z))]
    refine Eq.trans ?_ (if_neg c1).symm
    refine (q_blk (Y := mX11_move) (q_dcC dX11_move_50 (q_dcC dX11_move_51 q_dcN)) (show _ = some (52, [.ref 0, .int x1, .int x2, .int x3, .int x4, .int x5], [.int 2, .ref 0]) from rfl)).trans ?_
    exact K_calV (d := d) (Y := mX11_move) (Z := mX11_finding) (vs := [.int 2]) (rest := []) (la := [.ref 0, .int 2]) dX11_move_52 rfl rfl rfl rfl ⟨by decide, rfl⟩ (Nat.le_of_ble_eq_true rfl) rfl (Nat.le_of_ble_eq_true rfl)
theorem B_X11_move_55 {o : q_H} (d : Nat) (x1 x2 x3 x4 x5 y0 : Int32) (g : Nat → Nat → Int32) : q_sem (d) mX11_move 55 [.ref 0, .int x1, .int x2, .int x3, .int x4, .int x5] [.int y0] (q_K o g) = some (some (.int y0), q_K o g) := by
  exact k_iret (Y := mX11_move) dX11_move_55 rfl
theorem B_X11_move_64 {o : q_H} (d : Nat) (x1 x2 x3 x4 x5 y0 : Int32) (g : Nat → Nat → Int32) : q_sem (d + 1) mX11_move 64 [.ref 0, .int x1, .int x2, .int x3, .int x4, .int x5] [.int y0] (q_K o g) = (q_sem d mX6_bits 0 [.ref 69, .int x3] [] (q_K o g)).bind (fun r => q_sem (d + 1) mX11_move 72 [.ref 0, .int x1, .int x2, .int x3, .int x4, .int x5] (r.1.toList ++ [.int y0]) r.2) := by
  refine (q_blk (Y := mX11_move) (q_dcC dX11_move_64 q_dcN) (show _ = some (65, [.ref 0, .int x1, .int x2, .int x3, .int x4, .int x5], [.ref 0, .int y0]) from rfl)).trans ?_
  refine (k_getr (Y := mX11_move) dX11_move_65 rfl rfl ⟨by decide, rfl⟩ (by decide) rfl).trans ?_
  refine (q_blk (Y := mX11_move) (q_dcC dX11_move_68 q_dcN) (show _ = some (69, [.ref 0, .int x1, .int x2, .int x3, .int x4, .int x5], [.int x3, .ref 69, .int y0]) from rfl)).trans ?_
  exact K_calV (d := d) (Y := mX11_move) (Z := mX6_bits) (vs := [.int x3]) (rest := [.int y0]) (la := [.ref 69, .int x3]) dX11_move_69 rfl rfl rfl rfl ⟨by decide, rfl⟩ (Nat.le_of_ble_eq_true rfl) rfl (Nat.le_of_ble_eq_true rfl)
theorem B_X11_move_72 {o : q_H} (d : Nat) (x1 x2 x3 x4 x5 y0 y1 : Int32) (g : Nat → Nat → Int32) : q_sem (d + 1) mX11_move 72 [.ref 0, .int x1, .int x2, .int x3, .int x4, .int x5] [.int y0, .int y1] (q_K o g) = (if y1 = y0 then (q_sem d mX6_copy 0 [.ref 69, .int x1, .int x2, .int x3, .int x4, .int x5, .retAddr 0, .retAddr 0, .retAddr 0] [] (q_K o g)).bind (fun r => q_sem (d + 1) mX11_move 95 [.ref 0, .int x1, .int x2, .int x3, .int x4, .int x5] (r.1.toList ++ []) r.2) else (q_sem d mX11_finding 0 [.ref 0, .int 5] [] (q_K o g)).bind (fun r => q_sem (d + 1) mX11_move 80 [.ref 0, .int x1, .int x2, .int x3, .int x4, .int x5] (r.1.toList ++ []) r.2)) := by
  refine (q_blk (Y := mX11_move) (q_dcC dX11_move_72 q_dcN) (show _ = some ((if q_cc .eq y1 y0 = true then 81 else 75), [.ref 0, .int x1, .int x2, .int x3, .int x4, .int x5], []) from rfl)).trans ?_
  by_cases c1 : y1 = y0
  · rw [if_pos (show q_cc .eq y1 y0 = true from decide_eq_true c1)]
    refine Eq.trans ?_ (if_pos c1).symm
    refine (q_blk (Y := mX11_move) (q_dcC dX11_move_81 q_dcN) (show _ = some (82, [.ref 0, .int x1, .int x2, .int x3, .int x4, .int x5], [.ref 0]) from rfl)).trans ?_
    refine (k_getr (Y := mX11_move) dX11_move_82 rfl rfl ⟨by decide, rfl⟩ (by decide) rfl).trans ?_
    refine (q_blk (Y := mX11_move) (q_dcC dX11_move_85 (q_dcC dX11_move_86 (q_dcC dX11_move_87 (q_dcC dX11_move_88 (q_dcC dX11_move_90 q_dcN))))) (show _ = some (92, [.ref 0, .int x1, .int x2, .int x3, .int x4, .int x5], [.int x5, .int x4, .int x3, .int x2, .int x1, .ref 69]) from rfl)).trans ?_
    exact K_calV (d := d) (Y := mX11_move) (Z := mX6_copy) (vs := [.int x1, .int x2, .int x3, .int x4, .int x5]) (rest := []) (la := [.ref 69, .int x1, .int x2, .int x3, .int x4, .int x5, .retAddr 0, .retAddr 0, .retAddr 0]) dX11_move_92 rfl rfl rfl rfl ⟨by decide, rfl⟩ (Nat.le_of_ble_eq_true rfl) rfl (Nat.le_of_ble_eq_true rfl)
  · rw [if_neg (show ¬ q_cc .eq y1 y0 = true from fun z => c1 (of_decide_eq_true z))]
    refine Eq.trans ?_ (if_neg c1).symm
    refine (q_blk (Y := mX11_move) (q_dcC dX11_move_75 (q_dcC dX11_move_76 q_dcN)) (show _ = some (77, [.ref 0, .int x1, .int x2, .int x3, .int x4, .int x5], [.int 5, .ref 0]) from rfl)).trans ?_
    exact K_calV (d := d) (Y := mX11_move) (Z := mX11_finding) (vs := [.int 5]) (rest := []) (la := [.ref 0, .int 5]) dX11_move_77 rfl rfl rfl rfl ⟨by decide, rfl⟩ (Nat.le_of_ble_eq_true rfl) rfl (Nat.le_of_ble_eq_true rfl)
theorem B_X11_move_95 {o : q_H} (d : Nat) (x1 x2 x3 x4 x5 y0 : Int32) (g : Nat → Nat → Int32) : q_sem (d + 1) mX11_move 95 [.ref 0, .int x1, .int x2, .int x3, .int x4, .int x5] [.int y0] (q_K o g) = (if y0 = 0 then (q_sem d mX11_finding 0 [.ref 0, .int 1] [] (q_K o g)).bind (fun r => q_sem (d + 1) mX11_move 108 [.ref 0, .int x1, .int x2, .int x3, .int x4, .int x5] (r.1.toList ++ []) r.2) else some (some (.int x5), q_K o g)) := by
  refine (q_blk (Y := mX11_move) (q_dcC dX11_move_95 q_dcN) (show _ = some ((if q_cc .eq y0 0 = true then 103 else 98), [.ref 0, .int x1, .int x2, .int x3, .int x4, .int x5], []) from rfl)).trans ?_
  by_cases c1 : y0 = 0
  · rw [if_pos (show q_cc .eq y0 0 = true from decide_eq_true c1)]
    refine Eq.trans ?_ (if_pos c1).symm
    refine (q_blk (Y := mX11_move) (q_dcC dX11_move_103 (q_dcC dX11_move_104 q_dcN)) (show _ = some (105, [.ref 0, .int x1, .int x2, .int x3, .int x4, .int x5], [.int 1, .ref 0]) from rfl)).trans ?_
    exact K_calV (d := d) (Y := mX11_move) (Z := mX11_finding) (vs := [.int 1]) (rest := []) (la := [.ref 0, .int 1]) dX11_move_105 rfl rfl rfl rfl ⟨by decide, rfl⟩ (Nat.le_of_ble_eq_true rfl) rfl (Nat.le_of_ble_eq_true rfl)
  · rw [if_neg (show ¬ q_cc .eq y0 0 = true from fun z => c1 (of_decide_eq_true z))]
    refine Eq.trans ?_ (if_neg c1).symm
    refine (q_blk (Y := mX11_move) (q_dcC dX11_move_98 (q_dcC dX11_move_100 q_dcN)) (show _ = some (108, [.ref 0, .int x1, .int x2, .int x3, .int x4, .int x5], [.int x5]) from rfl)).trans ?_
    exact k_iret (Y := mX11_move) dX11_move_108 rfl
theorem B_X11_move_80 {o : q_H} (d : Nat) (x1 x2 x3 x4 x5 y0 : Int32) (g : Nat → Nat → Int32) : q_sem (d) mX11_move 80 [.ref 0, .int x1, .int x2, .int x3, .int x4, .int x5] [.int y0] (q_K o g) = some (some (.int y0), q_K o g) := by
  exact k_iret (Y := mX11_move) dX11_move_80 rfl
theorem B_X11_move_108 {o : q_H} (d : Nat) (x1 x2 x3 x4 x5 y0 : Int32) (g : Nat → Nat → Int32) : q_sem (d) mX11_move 108 [.ref 0, .int x1, .int x2, .int x3, .int x4, .int x5] [.int y0] (q_K o g) = some (some (.int y0), q_K o g) := by
  exact k_iret (Y := mX11_move) dX11_move_108 rfl
theorem B_X11_image_0 {o : q_H} (d : Nat) (g : Nat → Nat → Int32) : q_sem (d + 1) mX11_image 0 [.ref 0] [] (q_K o g) = (q_sem d mX10_copyFrom 0 [.ref 23, .ref 1] [] (q_K o g)).bind (fun r => q_sem (d + 1) mX11_image 11 [.ref 0] (r.1.toList ++ []) r.2) := by
  refine (q_blk (Y := mX11_image) (q_dcC dX11_image_0 q_dcN) (show _ = some (1, [.ref 0], [.ref 0]) from rfl)).trans ?_
  refine (k_getr (Y := mX11_image) dX11_image_1 rfl rfl ⟨by decide, rfl⟩ (by decide) rfl).trans ?_
  refine (q_blk (Y := mX11_image) (q_dcC dX11_image_4 q_dcN) (show _ = some (5, [.ref 0], [.ref 0, .ref 23]) from rfl)).trans ?_
  refine (k_getr (Y := mX11_image) dX11_image_5 rfl rfl ⟨by decide, rfl⟩ (by decide) rfl).trans ?_
  exact K_calV (d := d) (Y := mX11_image) (Z := mX10_copyFrom) (vs := [.ref 1]) (rest := []) (la := [.ref 23, .ref 1]) dX11_image_8 rfl rfl rfl rfl ⟨by decide, rfl⟩ (Nat.le_of_ble_eq_true rfl) rfl (Nat.le_of_ble_eq_true rfl)
theorem B_X11_image_11 {o : q_H} (d : Nat) (g : Nat → Nat → Int32) : q_sem (d) mX11_image 11 [.ref 0] [] (q_K o g) = some (some (.int ((q_up g 0 10 ((g 0 10) + 1)) 0 10)), q_K o (q_up g 0 10 ((g 0 10) + 1))) := by
  refine (q_blk (Y := mX11_image) (q_dcC dX11_image_11 (q_dcC dX11_image_12 q_dcN)) (show _ = some (13, [.ref 0], [.ref 0, .ref 0]) from rfl)).trans ?_
  refine (k_geti (Y := mX11_image) dX11_image_13 rfl rfl ⟨by decide, rfl⟩ (by decide) rfl).trans ?_
  refine (q_blk (Y := mX11_image) (q_dcC dX11_image_16 (q_dcC dX11_image_17 q_dcN)) (show _ = some (18, [.ref 0], [.int ((g 0 10) + 1), .ref 0]) from rfl)).trans ?_
  refine (k_puti (Y := mX11_image) dX11_image_18 rfl ⟨by decide, rfl⟩ (by decide) rfl rfl rfl rfl).trans ?_
  refine (q_blk (Y := mX11_image) (q_dcC dX11_image_21 q_dcN) (show _ = some (22, [.ref 0], [.ref 0]) from rfl)).trans ?_
  refine (k_geti (Y := mX11_image) dX11_image_22 rfl rfl ⟨by decide, rfl⟩ (by decide) rfl).trans ?_
  exact k_iret (Y := mX11_image) dX11_image_25 rfl
theorem B_X11_restore_0 {o : q_H} (d : Nat) (g : Nat → Nat → Int32) : q_sem (d + 1) mX11_restore 0 [.ref 0] [] (q_K o g) = (if (g 0 10) = 0 then (q_sem d mX11_finding 0 [.ref 0, .int 2] [] (q_K o g)).bind (fun r => q_sem (d + 1) mX11_restore 12 [.ref 0] (r.1.toList ++ []) r.2) else (q_sem d mX10_copyFrom 0 [.ref 1, .ref 23] [] (q_K o g)).bind (fun r => q_sem (d + 1) mX11_restore 24 [.ref 0] (r.1.toList ++ []) r.2)) := by
  refine (q_blk (Y := mX11_restore) (q_dcC dX11_restore_0 q_dcN) (show _ = some (1, [.ref 0], [.ref 0]) from rfl)).trans ?_
  refine (k_geti (Y := mX11_restore) dX11_restore_1 rfl rfl ⟨by decide, rfl⟩ (by decide) rfl).trans ?_
  refine (q_blk (Y := mX11_restore) (q_dcC dX11_restore_4 q_dcN) (show _ = some ((if q_cc .ne (g 0 10) 0 = true then 13 else 7), [.ref 0], []) from rfl)).trans ?_
  by_cases c1 : (g 0 10) = 0
  · rw [if_neg (show ¬ q_cc .ne (g 0 10) 0 = true from fun z => (of_decide_eq_true z : ¬ (g 0 10) = 0) c1)]
    refine Eq.trans ?_ (if_pos c1).symm
    refine (q_blk (Y := mX11_restore) (q_dcC dX11_restore_7 (q_dcC dX11_restore_8 q_dcN)) (show _ = some (9, [.ref 0], [.int 2, .ref 0]) from rfl)).trans ?_
    exact K_calV (d := d) (Y := mX11_restore) (Z := mX11_finding) (vs := [.int 2]) (rest := []) (la := [.ref 0, .int 2]) dX11_restore_9 rfl rfl rfl rfl ⟨by decide, rfl⟩ (Nat.le_of_ble_eq_true rfl) rfl (Nat.le_of_ble_eq_true rfl)
  · rw [if_pos (show q_cc .ne (g 0 10) 0 = true from decide_eq_true c1)]
    refine Eq.trans ?_ (if_neg c1).symm
    refine (q_blk (Y := mX11_restore) (q_dcC dX11_restore_13 q_dcN) (show _ = some (14, [.ref 0], [.ref 0]) from rfl)).trans ?_
    refine (k_getr (Y := mX11_restore) dX11_restore_14 rfl rfl ⟨by decide, rfl⟩ (by decide) rfl).trans ?_
    refine (q_blk (Y := mX11_restore) (q_dcC dX11_restore_17 q_dcN) (show _ = some (18, [.ref 0], [.ref 0, .ref 1]) from rfl)).trans ?_
    refine (k_getr (Y := mX11_restore) dX11_restore_18 rfl rfl ⟨by decide, rfl⟩ (by decide) rfl).trans ?_
    exact K_calV (d := d) (Y := mX11_restore) (Z := mX10_copyFrom) (vs := [.ref 23]) (rest := []) (la := [.ref 1, .ref 23]) dX11_restore_21 rfl rfl rfl rfl ⟨by decide, rfl⟩ (Nat.le_of_ble_eq_true rfl) rfl (Nat.le_of_ble_eq_true rfl)
theorem B_X11_restore_12 {o : q_H} (d : Nat) (y0 : Int32) (g : Nat → Nat → Int32) : q_sem (d) mX11_restore 12 [.ref 0] [.int y0] (q_K o g) = some (some (.int y0), q_K o g) := by
  exact k_iret (Y := mX11_restore) dX11_restore_12 rfl
theorem B_X11_restore_24 {o : q_H} (d : Nat) (g : Nat → Nat → Int32) : q_sem (d) mX11_restore 24 [.ref 0] [] (q_K o g) = some (some (.int (g 1 8)), q_K o g) := by
  refine (q_blk (Y := mX11_restore) (q_dcC dX11_restore_24 q_dcN) (show _ = some (25, [.ref 0], [.ref 0]) from rfl)).trans ?_
  refine (k_getr (Y := mX11_restore) dX11_restore_25 rfl rfl ⟨by decide, rfl⟩ (by decide) rfl).trans ?_
  refine (k_geti (Y := mX11_restore) dX11_restore_28 rfl rfl ⟨by decide, rfl⟩ (by decide) rfl).trans ?_
  exact k_iret (Y := mX11_restore) dX11_restore_31 rfl
theorem B_X11_tell_0 {o : q_H} (d : Nat) (x1 : Int32) (g : Nat → Nat → Int32) : q_sem (d + 1) mX11_tell 0 [.ref 0, .int x1] [] (q_K o g) = (q_sem d mX7_add 0 [.ref 14, .int x1, .retAddr 0] [] (q_K o g)).bind (fun r => q_sem (d + 1) mX11_tell 11 [.ref 0, .int x1] (r.1.toList ++ []) r.2) := by
  refine (q_blk (Y := mX11_tell) (q_dcC dX11_tell_0 q_dcN) (show _ = some (1, [.ref 0, .int x1], [.ref 0]) from rfl)).trans ?_
  refine (k_getr (Y := mX11_tell) dX11_tell_1 rfl rfl ⟨by decide, rfl⟩ (by decide) rfl).trans ?_
  refine (k_getr (Y := mX11_tell) dX11_tell_4 rfl rfl ⟨by decide, rfl⟩ (by decide) rfl).trans ?_
  refine (q_blk (Y := mX11_tell) (q_dcC dX11_tell_7 q_dcN) (show _ = some (8, [.ref 0, .int x1], [.int x1, .ref 14]) from rfl)).trans ?_
  exact K_calV (d := d) (Y := mX11_tell) (Z := mX7_add) (vs := [.int x1]) (rest := []) (la := [.ref 14, .int x1, .retAddr 0]) dX11_tell_8 rfl rfl rfl rfl ⟨by decide, rfl⟩ (Nat.le_of_ble_eq_true rfl) rfl (Nat.le_of_ble_eq_true rfl)
theorem B_X11_tell_11 {o : q_H} (d : Nat) (x1 y0 : Int32) (g : Nat → Nat → Int32) : q_sem (d + 1) mX11_tell 11 [.ref 0, .int x1] [.int y0] (q_K o g) = (if 0 ≤ y0 then (q_sem d mX7_size 0 [.ref 14] [] (q_K o g)).bind (fun r => q_sem (d + 1) mX11_tell 30 [.ref 0, .int x1] (r.1.toList ++ []) r.2) else (q_sem d mX11_finding 0 [.ref 0, .int 4] [] (q_K o g)).bind (fun r => q_sem (d + 1) mX11_tell 19 [.ref 0, .int x1] (r.1.toList ++ []) r.2)) := by
  refine (q_blk (Y := mX11_tell) (q_dcC dX11_tell_11 q_dcN) (show _ = some ((if q_cc .ge y0 0 = true then 20 else 14), [.ref 0, .int x1], []) from rfl)).trans ?_
  by_cases c1 : 0 ≤ y0
  · rw [if_pos (show q_cc .ge y0 0 = true from decide_eq_true c1)]
    refine Eq.trans ?_ (if_pos c1).symm
    refine (q_blk (Y := mX11_tell) (q_dcC dX11_tell_20 q_dcN) (show _ = some (21, [.ref 0, .int x1], [.ref 0]) from rfl)).trans ?_
    refine (k_getr (Y := mX11_tell) dX11_tell_21 rfl rfl ⟨by decide, rfl⟩ (by decide) rfl).trans ?_
    refine (k_getr (Y := mX11_tell) dX11_tell_24 rfl rfl ⟨by decide, rfl⟩ (by decide) rfl).trans ?_
    exact K_calV (d := d) (Y := mX11_tell) (Z := mX7_size) (vs := []) (rest := []) (la := [.ref 14]) dX11_tell_27 rfl rfl rfl rfl ⟨by decide, rfl⟩ (Nat.le_of_ble_eq_true rfl) rfl (Nat.le_of_ble_eq_true rfl)
  · rw [if_neg (show ¬ q_cc .ge y0 0 = true from fun z => c1 (of_decide_eq_true z))]
    refine Eq.trans ?_ (if_neg c1).symm
    refine (q_blk (Y := mX11_tell) (q_dcC dX11_tell_14 (q_dcC dX11_tell_15 q_dcN)) (show _ = some (16, [.ref 0, .int x1], [.int 4, .ref 0]) from rfl)).trans ?_
    exact K_calV (d := d) (Y := mX11_tell) (Z := mX11_finding) (vs := [.int 4]) (rest := []) (la := [.ref 0, .int 4]) dX11_tell_16 rfl rfl rfl rfl ⟨by decide, rfl⟩ (Nat.le_of_ble_eq_true rfl) rfl (Nat.le_of_ble_eq_true rfl)
theorem B_X11_tell_30 {o : q_H} (d : Nat) (x1 y0 : Int32) (g : Nat → Nat → Int32) : q_sem (d) mX11_tell 30 [.ref 0, .int x1] [.int y0] (q_K o g) = some (some (.int y0), q_K o g) := by
  exact k_iret (Y := mX11_tell) dX11_tell_30 rfl
theorem B_X11_tell_19 {o : q_H} (d : Nat) (x1 y0 : Int32) (g : Nat → Nat → Int32) : q_sem (d) mX11_tell 19 [.ref 0, .int x1] [.int y0] (q_K o g) = some (some (.int y0), q_K o g) := by
  exact k_iret (Y := mX11_tell) dX11_tell_19 rfl
theorem B_X11_check_0 {o : q_H} (d : Nat) (g : Nat → Nat → Int32) : q_sem (d + 1) mX11_check 0 [.ref 0, .retAddr 0] [] (q_K o g) = (q_sem d mX11_firstUntrue 0 [.ref 0, .retAddr 0] [] (q_K o g)).bind (fun r => q_sem (d + 1) mX11_check 4 [.ref 0, .retAddr 0] (r.1.toList ++ []) r.2) := by
  refine (q_blk (Y := mX11_check) (q_dcC dX11_check_0 q_dcN) (show _ = some (1, [.ref 0, .retAddr 0], [.ref 0]) from rfl)).trans ?_
  exact K_calV (d := d) (Y := mX11_check) (Z := mX11_firstUntrue) (vs := []) (rest := []) (la := [.ref 0, .retAddr 0]) dX11_check_1 rfl rfl rfl rfl ⟨by decide, rfl⟩ (Nat.le_of_ble_eq_true rfl) rfl (Nat.le_of_ble_eq_true rfl)
theorem B_X11_check_4 {o : q_H} (d : Nat) (y0 : Int32) (g : Nat → Nat → Int32) : q_sem (d + 1) mX11_check 4 [.ref 0, .retAddr 0] [.int y0] (q_K o g) = (q_sem d mX7_clear 0 [.ref 14] [] (q_K o g)).bind (fun r => q_sem (d + 1) mX11_check 15 [.ref 0, .int y0] (r.1.toList ++ []) r.2) := by
  refine (q_blk (Y := mX11_check) (q_dcC dX11_check_4 (q_dcC dX11_check_5 q_dcN)) (show _ = some (6, [.ref 0, .int y0], [.ref 0]) from rfl)).trans ?_
  refine (k_getr (Y := mX11_check) dX11_check_6 rfl rfl ⟨by decide, rfl⟩ (by decide) rfl).trans ?_
  refine (k_getr (Y := mX11_check) dX11_check_9 rfl rfl ⟨by decide, rfl⟩ (by decide) rfl).trans ?_
  exact K_calV (d := d) (Y := mX11_check) (Z := mX7_clear) (vs := []) (rest := []) (la := [.ref 14]) dX11_check_12 rfl rfl rfl rfl ⟨by decide, rfl⟩ (Nat.le_of_ble_eq_true rfl) rfl (Nat.le_of_ble_eq_true rfl)
theorem B_X11_check_15 {o : q_H} (d : Nat) (x1 : Int32) (g : Nat → Nat → Int32) : q_sem (d) mX11_check 15 [.ref 0, .int x1] [] (q_K o g) = some (some (.int (x1 + 1)), q_K o g) := by
  refine (q_blk (Y := mX11_check) (q_dcC dX11_check_15 (q_dcC dX11_check_16 (q_dcC dX11_check_17 q_dcN))) (show _ = some (18, [.ref 0, .int x1], [.int (x1 + 1)]) from rfl)).trans ?_
  exact k_iret (Y := mX11_check) dX11_check_18 rfl
theorem B_X11_firstUntrue_0 {o : q_H} (d : Nat) (g : Nat → Nat → Int32) : q_sem (d) mX11_firstUntrue 0 [.ref 0, .retAddr 0] [] (q_K o g) = q_sem (d) mX11_firstUntrue 2 [.ref 0, .int 0] [] (q_K o g) := by
  refine (q_blk (Y := mX11_firstUntrue) (q_dcC dX11_firstUntrue_0 (q_dcC dX11_firstUntrue_1 q_dcN)) (show _ = some (2, [.ref 0, .int 0], []) from rfl)).trans ?_
  rfl
theorem B_X11_firstUntrue_2 {o : q_H} (d : Nat) (x1 : Int32) (g : Nat → Nat → Int32) : q_sem (d + 1) mX11_firstUntrue 2 [.ref 0, .int x1] [] (q_K o g) = (q_sem d mX7_size 0 [.ref 14] [] (q_K o g)).bind (fun r => q_sem (d + 1) mX11_firstUntrue 13 [.ref 0, .int x1] (r.1.toList ++ [.int x1]) r.2) := by
  refine (q_blk (Y := mX11_firstUntrue) (q_dcC dX11_firstUntrue_2 (q_dcC dX11_firstUntrue_3 q_dcN)) (show _ = some (4, [.ref 0, .int x1], [.ref 0, .int x1]) from rfl)).trans ?_
  refine (k_getr (Y := mX11_firstUntrue) dX11_firstUntrue_4 rfl rfl ⟨by decide, rfl⟩ (by decide) rfl).trans ?_
  refine (k_getr (Y := mX11_firstUntrue) dX11_firstUntrue_7 rfl rfl ⟨by decide, rfl⟩ (by decide) rfl).trans ?_
  exact K_calV (d := d) (Y := mX11_firstUntrue) (Z := mX7_size) (vs := []) (rest := [.int x1]) (la := [.ref 14]) dX11_firstUntrue_10 rfl rfl rfl rfl ⟨by decide, rfl⟩ (Nat.le_of_ble_eq_true rfl) rfl (Nat.le_of_ble_eq_true rfl)
theorem B_X11_firstUntrue_13 {o : q_H} (d : Nat) (x1 y0 y1 : Int32) (g : Nat → Nat → Int32) : q_sem (d + 1) mX11_firstUntrue 13 [.ref 0, .int x1] [.int y0, .int y1] (q_K o g) = (if y0 ≤ y1 then some (some (.int (-1)), q_K o g) else (q_sem d mX7_has 0 [.ref 12, .int x1] [] (q_K o g)).bind (fun r => q_sem (d + 1) mX11_firstUntrue 27 [.ref 0, .int x1] (r.1.toList ++ []) r.2)) := by
  refine (q_blk (Y := mX11_firstUntrue) (q_dcC dX11_firstUntrue_13 q_dcN) (show _ = some ((if q_cc .ge y1 y0 = true then 65 else 16), [.ref 0, .int x1], []) from rfl)).trans ?_
  by_cases c1 : y0 ≤ y1
  · rw [if_pos (show q_cc .ge y1 y0 = true from decide_eq_true c1)]
    refine Eq.trans ?_ (if_pos c1).symm
    refine (q_blk (Y := mX11_firstUntrue) (q_dcC dX11_firstUntrue_65 q_dcN) (show _ = some (66, [.ref 0, .int x1], [.int (-1)]) from rfl)).trans ?_
    exact k_iret (Y := mX11_firstUntrue) dX11_firstUntrue_66 rfl
  · rw [if_neg (show ¬ q_cc .ge y1 y0 = true from fun z => c1 (of_decide_eq_true z))]
    refine Eq.trans ?_ (if_neg c1).symm
    refine (q_blk (Y := mX11_firstUntrue) (q_dcC dX11_firstUntrue_16 q_dcN) (show _ = some (17, [.ref 0, .int x1], [.ref 0]) from rfl)).trans ?_
    refine (k_getr (Y := mX11_firstUntrue) dX11_firstUntrue_17 rfl rfl ⟨by decide, rfl⟩ (by decide) rfl).trans ?_
    refine (k_getr (Y := mX11_firstUntrue) dX11_firstUntrue_20 rfl rfl ⟨by decide, rfl⟩ (by decide) rfl).trans ?_
    refine (q_blk (Y := mX11_firstUntrue) (q_dcC dX11_firstUntrue_23 q_dcN) (show _ = some (24, [.ref 0, .int x1], [.int x1, .ref 12]) from rfl)).trans ?_
    exact K_calV (d := d) (Y := mX11_firstUntrue) (Z := mX7_has) (vs := [.int x1]) (rest := []) (la := [.ref 12, .int x1]) dX11_firstUntrue_24 rfl rfl rfl rfl ⟨by decide, rfl⟩ (Nat.le_of_ble_eq_true rfl) rfl (Nat.le_of_ble_eq_true rfl)
theorem B_X11_firstUntrue_27 {o : q_H} (d : Nat) (x1 y0 : Int32) (g : Nat → Nat → Int32) : q_sem (d + 1) mX11_firstUntrue 27 [.ref 0, .int x1] [.int y0] (q_K o g) = (if y0 = 0 then some (some (.int x1), q_K o g) else (q_sem d mX7_get 0 [.ref 12, .int x1, .int 5] [] (q_K o g)).bind (fun r => q_sem (d + 1) mX11_firstUntrue 42 [.ref 0, .int x1] (r.1.toList ++ []) r.2)) := by
  refine (q_blk (Y := mX11_firstUntrue) (q_dcC dX11_firstUntrue_27 q_dcN) (show _ = some ((if q_cc .eq y0 0 = true then 57 else 30), [.ref 0, .int x1], []) from rfl)).trans ?_
  by_cases c1 : y0 = 0
  · rw [if_pos (show q_cc .eq y0 0 = true from decide_eq_true c1)]
    refine Eq.trans ?_ (if_pos c1).symm
    refine (q_blk (Y := mX11_firstUntrue) (q_dcC dX11_firstUntrue_57 q_dcN) (show _ = some (58, [.ref 0, .int x1], [.int x1]) from rfl)).trans ?_
    exact k_iret (Y := mX11_firstUntrue) dX11_firstUntrue_58 rfl
  · rw [if_neg (show ¬ q_cc .eq y0 0 = true from fun z => c1 (of_decide_eq_true z))]
    refine Eq.trans ?_ (if_neg c1).symm
    refine (q_blk (Y := mX11_firstUntrue) (q_dcC dX11_firstUntrue_30 q_dcN) (show _ = some (31, [.ref 0, .int x1], [.ref 0]) from rfl)).trans ?_
    refine (k_getr (Y := mX11_firstUntrue) dX11_firstUntrue_31 rfl rfl ⟨by decide, rfl⟩ (by decide) rfl).trans ?_
    refine (k_getr (Y := mX11_firstUntrue) dX11_firstUntrue_34 rfl rfl ⟨by decide, rfl⟩ (by decide) rfl).trans ?_
    refine (q_blk (Y := mX11_firstUntrue) (q_dcC dX11_firstUntrue_37 (q_dcC dX11_firstUntrue_38 q_dcN)) (show _ = some (39, [.ref 0, .int x1], [.int 5, .int x1, .ref 12]) from rfl)).trans ?_
    exact K_calV (d := d) (Y := mX11_firstUntrue) (Z := mX7_get) (vs := [.int x1, .int 5]) (rest := []) (la := [.ref 12, .int x1, .int 5]) dX11_firstUntrue_39 rfl rfl rfl rfl ⟨by decide, rfl⟩ (Nat.le_of_ble_eq_true rfl) rfl (Nat.le_of_ble_eq_true rfl)
theorem B_X11_firstUntrue_42 {o : q_H} (d : Nat) (x1 y0 : Int32) (g : Nat → Nat → Int32) : q_sem (d + 1) mX11_firstUntrue 42 [.ref 0, .int x1] [.int y0] (q_K o g) = (q_sem d mX7_get 0 [.ref 14, .int x1, .int 0] [] (q_K o g)).bind (fun r => q_sem (d + 1) mX11_firstUntrue 54 [.ref 0, .int x1] (r.1.toList ++ [.int y0]) r.2) := by
  refine (q_blk (Y := mX11_firstUntrue) (q_dcC dX11_firstUntrue_42 q_dcN) (show _ = some (43, [.ref 0, .int x1], [.ref 0, .int y0]) from rfl)).trans ?_
  refine (k_getr (Y := mX11_firstUntrue) dX11_firstUntrue_43 rfl rfl ⟨by decide, rfl⟩ (by decide) rfl).trans ?_
  refine (k_getr (Y := mX11_firstUntrue) dX11_firstUntrue_46 rfl rfl ⟨by decide, rfl⟩ (by decide) rfl).trans ?_
  refine (q_blk (Y := mX11_firstUntrue) (q_dcC dX11_firstUntrue_49 (q_dcC dX11_firstUntrue_50 q_dcN)) (show _ = some (51, [.ref 0, .int x1], [.int 0, .int x1, .ref 14, .int y0]) from rfl)).trans ?_
  exact K_calV (d := d) (Y := mX11_firstUntrue) (Z := mX7_get) (vs := [.int x1, .int 0]) (rest := [.int y0]) (la := [.ref 14, .int x1, .int 0]) dX11_firstUntrue_51 rfl rfl rfl rfl ⟨by decide, rfl⟩ (Nat.le_of_ble_eq_true rfl) rfl (Nat.le_of_ble_eq_true rfl)
theorem B_X11_firstUntrue_54 {o : q_H} (d : Nat) (x1 y0 y1 : Int32) (g : Nat → Nat → Int32) : q_sem (d) mX11_firstUntrue 54 [.ref 0, .int x1] [.int y0, .int y1] (q_K o g) = (if y1 = y0 then q_sem (d) mX11_firstUntrue 2 [.ref 0, .int (x1 + 1)] [] (q_K o g) else some (some (.int x1), q_K o g)) := by
  refine (q_blk (Y := mX11_firstUntrue) (q_dcC dX11_firstUntrue_54 q_dcN) (show _ = some ((if q_cc .eq y1 y0 = true then 59 else 57), [.ref 0, .int x1], []) from rfl)).trans ?_
  by_cases c1 : y1 = y0
  · rw [if_pos (show q_cc .eq y1 y0 = true from decide_eq_true c1)]
    refine Eq.trans ?_ (if_pos c1).symm
    refine (q_blk (Y := mX11_firstUntrue) (q_dcC dX11_firstUntrue_59 (q_dcC dX11_firstUntrue_62 q_dcN)) (show _ = some (2, [.ref 0, .int (x1 + 1)], []) from rfl)).trans ?_
    rfl
  · rw [if_neg (show ¬ q_cc .eq y1 y0 = true from fun z => c1 (of_decide_eq_true z))]
    refine Eq.trans ?_ (if_neg c1).symm
    refine (q_blk (Y := mX11_firstUntrue) (q_dcC dX11_firstUntrue_57 q_dcN) (show _ = some (58, [.ref 0, .int x1], [.int x1]) from rfl)).trans ?_
    exact k_iret (Y := mX11_firstUntrue) dX11_firstUntrue_58 rfl
theorem B_X11_count_0 {o : q_H} (d : Nat) (x1 : Int32) (g : Nat → Nat → Int32) : q_sem (d + 1) mX11_count 0 [.ref 0, .int x1] [] (q_K o g) = (if x1 = 0 then (q_sem d mX7_size 0 [.ref 2] [] (q_K o g)).bind (fun r => q_sem (d + 1) mX11_count 90 [.ref 0, .int x1] (r.1.toList ++ []) r.2) else (if x1 = 1 then (q_sem d mX7_size 0 [.ref 4] [] (q_K o g)).bind (fun r => q_sem (d + 1) mX11_count 101 [.ref 0, .int x1] (r.1.toList ++ []) r.2) else (if x1 = 2 then (q_sem d mX7_size 0 [.ref 6] [] (q_K o g)).bind (fun r => q_sem (d + 1) mX11_count 112 [.ref 0, .int x1] (r.1.toList ++ []) r.2) else (if x1 = 3 then (q_sem d mX7_size 0 [.ref 8] [] (q_K o g)).bind (fun r => q_sem (d + 1) mX11_count 123 [.ref 0, .int x1] (r.1.toList ++ []) r.2) else (if x1 = 4 then (q_sem d mX7_size 0 [.ref 10] [] (q_K o g)).bind (fun r => q_sem (d + 1) mX11_count 134 [.ref 0, .int x1] (r.1.toList ++ []) r.2) else (if x1 = 5 then (q_sem d mX7_size 0 [.ref 12] [] (q_K o g)).bind (fun r => q_sem (d + 1) mX11_count 145 [.ref 0, .int x1] (r.1.toList ++ []) r.2) else (if x1 = 6 then (q_sem d mX7_size 0 [.ref 17] [] (q_K o g)).bind (fun r => q_sem (d + 1) mX11_count 159 [.ref 0, .int x1] (r.1.toList ++ []) r.2) else (if x1 = 7 then some (some (.int (g 1 8)), q_K o g) else (if x1 = 8 then (q_sem d mX7_size 0 [.ref 19] [] (q_K o g)).bind (fun r => q_sem (d + 1) mX11_count 181 [.ref 0, .int x1] (r.1.toList ++ []) r.2) else (if x1 = 9 then (q_sem d mX7_size 0 [.ref 95] [] (q_K o g)).bind (fun r => q_sem (d + 1) mX11_count 192 [.ref 0, .int x1] (r.1.toList ++ []) r.2) else (if x1 = 10 then (q_sem d mX7_size 0 [.ref 14] [] (q_K o g)).bind (fun r => q_sem (d + 1) mX11_count 203 [.ref 0, .int x1] (r.1.toList ++ []) r.2) else (if x1 = 11 then (q_sem d mX10_howMany 0 [.ref 1, .int 1, .int 0, .retAddr 0, .retAddr 0] [] (q_K o g)).bind (fun r => q_sem (d + 1) mX11_count 213 [.ref 0, .int x1] (r.1.toList ++ []) r.2) else (if x1 = 12 then (q_sem d mX10_howMany 0 [.ref 1, .int 4, .int 1, .retAddr 0, .retAddr 0] [] (q_K o g)).bind (fun r => q_sem (d + 1) mX11_count 223 [.ref 0, .int x1] (r.1.toList ++ []) r.2) else (if x1 = 13 then (q_sem d mX7_total 0 [.ref 10, .int 2, .retAddr 0, .retAddr 0] [] (q_K o g)).bind (fun r => q_sem (d + 1) mX11_count 235 [.ref 0, .int x1] (r.1.toList ++ []) r.2) else (if x1 = 14 then (q_sem d mX7_total 0 [.ref 10, .int 3, .retAddr 0, .retAddr 0] [] (q_K o g)).bind (fun r => q_sem (d + 1) mX11_count 247 [.ref 0, .int x1] (r.1.toList ++ []) r.2) else (if x1 = 15 then (q_sem d mX10_cellsSeen 0 [.ref 1, .retAddr 0, .retAddr 0] [] (q_K o g)).bind (fun r => q_sem (d + 1) mX11_count 255 [.ref 0, .int x1] (r.1.toList ++ []) r.2) else (q_sem d mX11_finding 0 [.ref 0, .int 1] [] (q_K o g)).bind (fun r => q_sem (d + 1) mX11_count 261 [.ref 0, .int x1] (r.1.toList ++ []) r.2))))))))))))))))) := by
  refine (q_blk (Y := mX11_count) (q_dcC dX11_count_0 q_dcN) (show _ = some (1, [.ref 0, .int x1], [.int x1]) from rfl)).trans ?_
  by_cases c1 : x1 = 0
  · refine Eq.trans ?_ (if_pos c1).symm
    refine (k_sw (Y := mX11_count) (t := 80) dX11_count_1 rfl ⟨rfl, rfl⟩ (by rw [c1]; rfl)).trans ?_
    refine (q_blk (Y := mX11_count) (q_dcC dX11_count_80 q_dcN) (show _ = some (81, [.ref 0, .int x1], [.ref 0]) from rfl)).trans ?_
    refine (k_getr (Y := mX11_count) dX11_count_81 rfl rfl ⟨by decide, rfl⟩ (by decide) rfl).trans ?_
    refine (k_getr (Y := mX11_count) dX11_count_84 rfl rfl ⟨by decide, rfl⟩ (by decide) rfl).trans ?_
    exact K_calV (d := d) (Y := mX11_count) (Z := mX7_size) (vs := []) (rest := []) (la := [.ref 2]) dX11_count_87 rfl rfl rfl rfl ⟨by decide, rfl⟩ (Nat.le_of_ble_eq_true rfl) rfl (Nat.le_of_ble_eq_true rfl)
  refine Eq.trans ?_ (if_neg c1).symm
  by_cases c2 : x1 = 1
  · refine Eq.trans ?_ (if_pos c2).symm
    refine (k_sw (Y := mX11_count) (t := 91) dX11_count_1 rfl ⟨rfl, rfl⟩ (by rw [c2]; rfl)).trans ?_
    refine (q_blk (Y := mX11_count) (q_dcC dX11_count_91 q_dcN) (show _ = some (92, [.ref 0, .int x1], [.ref 0]) from rfl)).trans ?_
    refine (k_getr (Y := mX11_count) dX11_count_92 rfl rfl ⟨by decide, rfl⟩ (by decide) rfl).trans ?_
    refine (k_getr (Y := mX11_count) dX11_count_95 rfl rfl ⟨by decide, rfl⟩ (by decide) rfl).trans ?_
    exact K_calV (d := d) (Y := mX11_count) (Z := mX7_size) (vs := []) (rest := []) (la := [.ref 4]) dX11_count_98 rfl rfl rfl rfl ⟨by decide, rfl⟩ (Nat.le_of_ble_eq_true rfl) rfl (Nat.le_of_ble_eq_true rfl)
  refine Eq.trans ?_ (if_neg c2).symm
  by_cases c3 : x1 = 2
  · refine Eq.trans ?_ (if_pos c3).symm
    refine (k_sw (Y := mX11_count) (t := 102) dX11_count_1 rfl ⟨rfl, rfl⟩ (by rw [c3]; rfl)).trans ?_
    refine (q_blk (Y := mX11_count) (q_dcC dX11_count_102 q_dcN) (show _ = some (103, [.ref 0, .int x1], [.ref 0]) from rfl)).trans ?_
    refine (k_getr (Y := mX11_count) dX11_count_103 rfl rfl ⟨by decide, rfl⟩ (by decide) rfl).trans ?_
    refine (k_getr (Y := mX11_count) dX11_count_106 rfl rfl ⟨by decide, rfl⟩ (by decide) rfl).trans ?_
    exact K_calV (d := d) (Y := mX11_count) (Z := mX7_size) (vs := []) (rest := []) (la := [.ref 6]) dX11_count_109 rfl rfl rfl rfl ⟨by decide, rfl⟩ (Nat.le_of_ble_eq_true rfl) rfl (Nat.le_of_ble_eq_true rfl)
  refine Eq.trans ?_ (if_neg c3).symm
  by_cases c4 : x1 = 3
  · refine Eq.trans ?_ (if_pos c4).symm
    refine (k_sw (Y := mX11_count) (t := 113) dX11_count_1 rfl ⟨rfl, rfl⟩ (by rw [c4]; rfl)).trans ?_
    refine (q_blk (Y := mX11_count) (q_dcC dX11_count_113 q_dcN) (show _ = some (114, [.ref 0, .int x1], [.ref 0]) from rfl)).trans ?_
    refine (k_getr (Y := mX11_count) dX11_count_114 rfl rfl ⟨by decide, rfl⟩ (by decide) rfl).trans ?_
    refine (k_getr (Y := mX11_count) dX11_count_117 rfl rfl ⟨by decide, rfl⟩ (by decide) rfl).trans ?_
    exact K_calV (d := d) (Y := mX11_count) (Z := mX7_size) (vs := []) (rest := []) (la := [.ref 8]) dX11_count_120 rfl rfl rfl rfl ⟨by decide, rfl⟩ (Nat.le_of_ble_eq_true rfl) rfl (Nat.le_of_ble_eq_true rfl)
  refine Eq.trans ?_ (if_neg c4).symm
  by_cases c5 : x1 = 4
  · refine Eq.trans ?_ (if_pos c5).symm
    refine (k_sw (Y := mX11_count) (t := 124) dX11_count_1 rfl ⟨rfl, rfl⟩ (by rw [c5]; rfl)).trans ?_
    refine (q_blk (Y := mX11_count) (q_dcC dX11_count_124 q_dcN) (show _ = some (125, [.ref 0, .int x1], [.ref 0]) from rfl)).trans ?_
    refine (k_getr (Y := mX11_count) dX11_count_125 rfl rfl ⟨by decide, rfl⟩ (by decide) rfl).trans ?_
    refine (k_getr (Y := mX11_count) dX11_count_128 rfl rfl ⟨by decide, rfl⟩ (by decide) rfl).trans ?_
    exact K_calV (d := d) (Y := mX11_count) (Z := mX7_size) (vs := []) (rest := []) (la := [.ref 10]) dX11_count_131 rfl rfl rfl rfl ⟨by decide, rfl⟩ (Nat.le_of_ble_eq_true rfl) rfl (Nat.le_of_ble_eq_true rfl)
  refine Eq.trans ?_ (if_neg c5).symm
  by_cases c6 : x1 = 5
  · refine Eq.trans ?_ (if_pos c6).symm
    refine (k_sw (Y := mX11_count) (t := 135) dX11_count_1 rfl ⟨rfl, rfl⟩ (by rw [c6]; rfl)).trans ?_
    refine (q_blk (Y := mX11_count) (q_dcC dX11_count_135 q_dcN) (show _ = some (136, [.ref 0, .int x1], [.ref 0]) from rfl)).trans ?_
    refine (k_getr (Y := mX11_count) dX11_count_136 rfl rfl ⟨by decide, rfl⟩ (by decide) rfl).trans ?_
    refine (k_getr (Y := mX11_count) dX11_count_139 rfl rfl ⟨by decide, rfl⟩ (by decide) rfl).trans ?_
    exact K_calV (d := d) (Y := mX11_count) (Z := mX7_size) (vs := []) (rest := []) (la := [.ref 12]) dX11_count_142 rfl rfl rfl rfl ⟨by decide, rfl⟩ (Nat.le_of_ble_eq_true rfl) rfl (Nat.le_of_ble_eq_true rfl)
  refine Eq.trans ?_ (if_neg c6).symm
  by_cases c7 : x1 = 6
  · refine Eq.trans ?_ (if_pos c7).symm
    refine (k_sw (Y := mX11_count) (t := 146) dX11_count_1 rfl ⟨rfl, rfl⟩ (by rw [c7]; rfl)).trans ?_
    refine (q_blk (Y := mX11_count) (q_dcC dX11_count_146 q_dcN) (show _ = some (147, [.ref 0, .int x1], [.ref 0]) from rfl)).trans ?_
    refine (k_getr (Y := mX11_count) dX11_count_147 rfl rfl ⟨by decide, rfl⟩ (by decide) rfl).trans ?_
    refine (k_getr (Y := mX11_count) dX11_count_150 rfl rfl ⟨by decide, rfl⟩ (by decide) rfl).trans ?_
    refine (k_getr (Y := mX11_count) dX11_count_153 rfl rfl ⟨by decide, rfl⟩ (by decide) rfl).trans ?_
    exact K_calV (d := d) (Y := mX11_count) (Z := mX7_size) (vs := []) (rest := []) (la := [.ref 17]) dX11_count_156 rfl rfl rfl rfl ⟨by decide, rfl⟩ (Nat.le_of_ble_eq_true rfl) rfl (Nat.le_of_ble_eq_true rfl)
  refine Eq.trans ?_ (if_neg c7).symm
  by_cases c8 : x1 = 7
  · refine Eq.trans ?_ (if_pos c8).symm
    refine (k_sw (Y := mX11_count) (t := 160) dX11_count_1 rfl ⟨rfl, rfl⟩ (by rw [c8]; rfl)).trans ?_
    refine (q_blk (Y := mX11_count) (q_dcC dX11_count_160 q_dcN) (show _ = some (161, [.ref 0, .int x1], [.ref 0]) from rfl)).trans ?_
    refine (k_getr (Y := mX11_count) dX11_count_161 rfl rfl ⟨by decide, rfl⟩ (by decide) rfl).trans ?_
    refine (k_geti (Y := mX11_count) dX11_count_164 rfl rfl ⟨by decide, rfl⟩ (by decide) rfl).trans ?_
    exact k_iret (Y := mX11_count) dX11_count_167 rfl
  refine Eq.trans ?_ (if_neg c8).symm
  by_cases c9 : x1 = 8
  · refine Eq.trans ?_ (if_pos c9).symm
    refine (k_sw (Y := mX11_count) (t := 168) dX11_count_1 rfl ⟨rfl, rfl⟩ (by rw [c9]; rfl)).trans ?_
    refine (q_blk (Y := mX11_count) (q_dcC dX11_count_168 q_dcN) (show _ = some (169, [.ref 0, .int x1], [.ref 0]) from rfl)).trans ?_
    refine (k_getr (Y := mX11_count) dX11_count_169 rfl rfl ⟨by decide, rfl⟩ (by decide) rfl).trans ?_
    refine (k_getr (Y := mX11_count) dX11_count_172 rfl rfl ⟨by decide, rfl⟩ (by decide) rfl).trans ?_
    refine (k_getr (Y := mX11_count) dX11_count_175 rfl rfl ⟨by decide, rfl⟩ (by decide) rfl).trans ?_
    exact K_calV (d := d) (Y := mX11_count) (Z := mX7_size) (vs := []) (rest := []) (la := [.ref 19]) dX11_count_178 rfl rfl rfl rfl ⟨by decide, rfl⟩ (Nat.le_of_ble_eq_true rfl) rfl (Nat.le_of_ble_eq_true rfl)
  refine Eq.trans ?_ (if_neg c9).symm
  by_cases c10 : x1 = 9
  · refine Eq.trans ?_ (if_pos c10).symm
    refine (k_sw (Y := mX11_count) (t := 182) dX11_count_1 rfl ⟨rfl, rfl⟩ (by rw [c10]; rfl)).trans ?_
    refine (q_blk (Y := mX11_count) (q_dcC dX11_count_182 q_dcN) (show _ = some (183, [.ref 0, .int x1], [.ref 0]) from rfl)).trans ?_
    refine (k_getr (Y := mX11_count) dX11_count_183 rfl rfl ⟨by decide, rfl⟩ (by decide) rfl).trans ?_
    refine (k_getr (Y := mX11_count) dX11_count_186 rfl rfl ⟨by decide, rfl⟩ (by decide) rfl).trans ?_
    exact K_calV (d := d) (Y := mX11_count) (Z := mX7_size) (vs := []) (rest := []) (la := [.ref 95]) dX11_count_189 rfl rfl rfl rfl ⟨by decide, rfl⟩ (Nat.le_of_ble_eq_true rfl) rfl (Nat.le_of_ble_eq_true rfl)
  refine Eq.trans ?_ (if_neg c10).symm
  by_cases c11 : x1 = 10
  · refine Eq.trans ?_ (if_pos c11).symm
    refine (k_sw (Y := mX11_count) (t := 193) dX11_count_1 rfl ⟨rfl, rfl⟩ (by rw [c11]; rfl)).trans ?_
    refine (q_blk (Y := mX11_count) (q_dcC dX11_count_193 q_dcN) (show _ = some (194, [.ref 0, .int x1], [.ref 0]) from rfl)).trans ?_
    refine (k_getr (Y := mX11_count) dX11_count_194 rfl rfl ⟨by decide, rfl⟩ (by decide) rfl).trans ?_
    refine (k_getr (Y := mX11_count) dX11_count_197 rfl rfl ⟨by decide, rfl⟩ (by decide) rfl).trans ?_
    exact K_calV (d := d) (Y := mX11_count) (Z := mX7_size) (vs := []) (rest := []) (la := [.ref 14]) dX11_count_200 rfl rfl rfl rfl ⟨by decide, rfl⟩ (Nat.le_of_ble_eq_true rfl) rfl (Nat.le_of_ble_eq_true rfl)
  refine Eq.trans ?_ (if_neg c11).symm
  by_cases c12 : x1 = 11
  · refine Eq.trans ?_ (if_pos c12).symm
    refine (k_sw (Y := mX11_count) (t := 204) dX11_count_1 rfl ⟨rfl, rfl⟩ (by rw [c12]; rfl)).trans ?_
    refine (q_blk (Y := mX11_count) (q_dcC dX11_count_204 q_dcN) (show _ = some (205, [.ref 0, .int x1], [.ref 0]) from rfl)).trans ?_
    refine (k_getr (Y := mX11_count) dX11_count_205 rfl rfl ⟨by decide, rfl⟩ (by decide) rfl).trans ?_
    refine (q_blk (Y := mX11_count) (q_dcC dX11_count_208 (q_dcC dX11_count_209 q_dcN)) (show _ = some (210, [.ref 0, .int x1], [.int 0, .int 1, .ref 1]) from rfl)).trans ?_
    exact K_calV (d := d) (Y := mX11_count) (Z := mX10_howMany) (vs := [.int 1, .int 0]) (rest := []) (la := [.ref 1, .int 1, .int 0, .retAddr 0, .retAddr 0]) dX11_count_210 rfl rfl rfl rfl ⟨by decide, rfl⟩ (Nat.le_of_ble_eq_true rfl) rfl (Nat.le_of_ble_eq_true rfl)
  refine Eq.trans ?_ (if_neg c12).symm
  by_cases c13 : x1 = 12
  · refine Eq.trans ?_ (if_pos c13).symm
    refine (k_sw (Y := mX11_count) (t := 214) dX11_count_1 rfl ⟨rfl, rfl⟩ (by rw [c13]; rfl)).trans ?_
    refine (q_blk (Y := mX11_count) (q_dcC dX11_count_214 q_dcN) (show _ = some (215, [.ref 0, .int x1], [.ref 0]) from rfl)).trans ?_
    refine (k_getr (Y := mX11_count) dX11_count_215 rfl rfl ⟨by decide, rfl⟩ (by decide) rfl).trans ?_
    refine (q_blk (Y := mX11_count) (q_dcC dX11_count_218 (q_dcC dX11_count_219 q_dcN)) (show _ = some (220, [.ref 0, .int x1], [.int 1, .int 4, .ref 1]) from rfl)).trans ?_
    exact K_calV (d := d) (Y := mX11_count) (Z := mX10_howMany) (vs := [.int 4, .int 1]) (rest := []) (la := [.ref 1, .int 4, .int 1, .retAddr 0, .retAddr 0]) dX11_count_220 rfl rfl rfl rfl ⟨by decide, rfl⟩ (Nat.le_of_ble_eq_true rfl) rfl (Nat.le_of_ble_eq_true rfl)
  refine Eq.trans ?_ (if_neg c13).symm
  by_cases c14 : x1 = 13
  · refine Eq.trans ?_ (if_pos c14).symm
    refine (k_sw (Y := mX11_count) (t := 224) dX11_count_1 rfl ⟨rfl, rfl⟩ (by rw [c14]; rfl)).trans ?_
    refine (q_blk (Y := mX11_count) (q_dcC dX11_count_224 q_dcN) (show _ = some (225, [.ref 0, .int x1], [.ref 0]) from rfl)).trans ?_
    refine (k_getr (Y := mX11_count) dX11_count_225 rfl rfl ⟨by decide, rfl⟩ (by decide) rfl).trans ?_
    refine (k_getr (Y := mX11_count) dX11_count_228 rfl rfl ⟨by decide, rfl⟩ (by decide) rfl).trans ?_
    refine (q_blk (Y := mX11_count) (q_dcC dX11_count_231 q_dcN) (show _ = some (232, [.ref 0, .int x1], [.int 2, .ref 10]) from rfl)).trans ?_
    exact K_calV (d := d) (Y := mX11_count) (Z := mX7_total) (vs := [.int 2]) (rest := []) (la := [.ref 10, .int 2, .retAddr 0, .retAddr 0]) dX11_count_232 rfl rfl rfl rfl ⟨by decide, rfl⟩ (Nat.le_of_ble_eq_true rfl) rfl (Nat.le_of_ble_eq_true rfl)
  refine Eq.trans ?_ (if_neg c14).symm
  by_cases c15 : x1 = 14
  · refine Eq.trans ?_ (if_pos c15).symm
    refine (k_sw (Y := mX11_count) (t := 236) dX11_count_1 rfl ⟨rfl, rfl⟩ (by rw [c15]; rfl)).trans ?_
    refine (q_blk (Y := mX11_count) (q_dcC dX11_count_236 q_dcN) (show _ = some (237, [.ref 0, .int x1], [.ref 0]) from rfl)).trans ?_
    refine (k_getr (Y := mX11_count) dX11_count_237 rfl rfl ⟨by decide, rfl⟩ (by decide) rfl).trans ?_
    refine (k_getr (Y := mX11_count) dX11_count_240 rfl rfl ⟨by decide, rfl⟩ (by decide) rfl).trans ?_
    refine (q_blk (Y := mX11_count) (q_dcC dX11_count_243 q_dcN) (show _ = some (244, [.ref 0, .int x1], [.int 3, .ref 10]) from rfl)).trans ?_
    exact K_calV (d := d) (Y := mX11_count) (Z := mX7_total) (vs := [.int 3]) (rest := []) (la := [.ref 10, .int 3, .retAddr 0, .retAddr 0]) dX11_count_244 rfl rfl rfl rfl ⟨by decide, rfl⟩ (Nat.le_of_ble_eq_true rfl) rfl (Nat.le_of_ble_eq_true rfl)
  refine Eq.trans ?_ (if_neg c15).symm
  by_cases c16 : x1 = 15
  · refine Eq.trans ?_ (if_pos c16).symm
    refine (k_sw (Y := mX11_count) (t := 248) dX11_count_1 rfl ⟨rfl, rfl⟩ (by rw [c16]; rfl)).trans ?_
    refine (q_blk (Y := mX11_count) (q_dcC dX11_count_248 q_dcN) (show _ = some (249, [.ref 0, .int x1], [.ref 0]) from rfl)).trans ?_
    refine (k_getr (Y := mX11_count) dX11_count_249 rfl rfl ⟨by decide, rfl⟩ (by decide) rfl).trans ?_
    exact K_calV (d := d) (Y := mX11_count) (Z := mX10_cellsSeen) (vs := []) (rest := []) (la := [.ref 1, .retAddr 0, .retAddr 0]) dX11_count_252 rfl rfl rfl rfl ⟨by decide, rfl⟩ (Nat.le_of_ble_eq_true rfl) rfl (Nat.le_of_ble_eq_true rfl)
  refine Eq.trans ?_ (if_neg c16).symm
  refine (k_swD (Y := mX11_count) (t := 256) dX11_count_1 (q_tso (x1) 0 16 (fun k hk => by rcases k with _ | _ | _ | _ | _ | _ | _ | _ | _ | _ | _ | _ | _ | _ | _ | _ | k; exact c1; exact c2; exact c3; exact c4; exact c5; exact c6; exact c7; exact c8; exact c9; exact c10; exact c11; exact c12; exact c13; exact c14; exact c15; exact c16; exact absurd hk (by omega))) rfl).trans ?_
  refine (q_blk (Y := mX11_count) (q_dcC dX11_count_256 (q_dcC dX11_count_257 q_dcN)) (show _ = some (258, [.ref 0, .int x1], [.int 1, .ref 0]) from rfl)).trans ?_
  exact K_calV (d := d) (Y := mX11_count) (Z := mX11_finding) (vs := [.int 1]) (rest := []) (la := [.ref 0, .int 1]) dX11_count_258 rfl rfl rfl rfl ⟨by decide, rfl⟩ (Nat.le_of_ble_eq_true rfl) rfl (Nat.le_of_ble_eq_true rfl)
theorem B_X11_count_90 {o : q_H} (d : Nat) (x1 y0 : Int32) (g : Nat → Nat → Int32) : q_sem (d) mX11_count 90 [.ref 0, .int x1] [.int y0] (q_K o g) = some (some (.int y0), q_K o g) := by
  exact k_iret (Y := mX11_count) dX11_count_90 rfl
theorem B_X11_count_101 {o : q_H} (d : Nat) (x1 y0 : Int32) (g : Nat → Nat → Int32) : q_sem (d) mX11_count 101 [.ref 0, .int x1] [.int y0] (q_K o g) = some (some (.int y0), q_K o g) := by
  exact k_iret (Y := mX11_count) dX11_count_101 rfl
theorem B_X11_count_112 {o : q_H} (d : Nat) (x1 y0 : Int32) (g : Nat → Nat → Int32) : q_sem (d) mX11_count 112 [.ref 0, .int x1] [.int y0] (q_K o g) = some (some (.int y0), q_K o g) := by
  exact k_iret (Y := mX11_count) dX11_count_112 rfl
theorem B_X11_count_123 {o : q_H} (d : Nat) (x1 y0 : Int32) (g : Nat → Nat → Int32) : q_sem (d) mX11_count 123 [.ref 0, .int x1] [.int y0] (q_K o g) = some (some (.int y0), q_K o g) := by
  exact k_iret (Y := mX11_count) dX11_count_123 rfl
theorem B_X11_count_134 {o : q_H} (d : Nat) (x1 y0 : Int32) (g : Nat → Nat → Int32) : q_sem (d) mX11_count 134 [.ref 0, .int x1] [.int y0] (q_K o g) = some (some (.int y0), q_K o g) := by
  exact k_iret (Y := mX11_count) dX11_count_134 rfl
theorem B_X11_count_145 {o : q_H} (d : Nat) (x1 y0 : Int32) (g : Nat → Nat → Int32) : q_sem (d) mX11_count 145 [.ref 0, .int x1] [.int y0] (q_K o g) = some (some (.int y0), q_K o g) := by
  exact k_iret (Y := mX11_count) dX11_count_145 rfl
theorem B_X11_count_159 {o : q_H} (d : Nat) (x1 y0 : Int32) (g : Nat → Nat → Int32) : q_sem (d) mX11_count 159 [.ref 0, .int x1] [.int y0] (q_K o g) = some (some (.int y0), q_K o g) := by
  exact k_iret (Y := mX11_count) dX11_count_159 rfl
theorem B_X11_count_181 {o : q_H} (d : Nat) (x1 y0 : Int32) (g : Nat → Nat → Int32) : q_sem (d) mX11_count 181 [.ref 0, .int x1] [.int y0] (q_K o g) = some (some (.int y0), q_K o g) := by
  exact k_iret (Y := mX11_count) dX11_count_181 rfl
theorem B_X11_count_192 {o : q_H} (d : Nat) (x1 y0 : Int32) (g : Nat → Nat → Int32) : q_sem (d) mX11_count 192 [.ref 0, .int x1] [.int y0] (q_K o g) = some (some (.int y0), q_K o g) := by
  exact k_iret (Y := mX11_count) dX11_count_192 rfl
theorem B_X11_count_203 {o : q_H} (d : Nat) (x1 y0 : Int32) (g : Nat → Nat → Int32) : q_sem (d) mX11_count 203 [.ref 0, .int x1] [.int y0] (q_K o g) = some (some (.int y0), q_K o g) := by
  exact k_iret (Y := mX11_count) dX11_count_203 rfl
theorem B_X11_count_213 {o : q_H} (d : Nat) (x1 y0 : Int32) (g : Nat → Nat → Int32) : q_sem (d) mX11_count 213 [.ref 0, .int x1] [.int y0] (q_K o g) = some (some (.int y0), q_K o g) := by
  exact k_iret (Y := mX11_count) dX11_count_213 rfl
theorem B_X11_count_223 {o : q_H} (d : Nat) (x1 y0 : Int32) (g : Nat → Nat → Int32) : q_sem (d) mX11_count 223 [.ref 0, .int x1] [.int y0] (q_K o g) = some (some (.int y0), q_K o g) := by
  exact k_iret (Y := mX11_count) dX11_count_223 rfl
theorem B_X11_count_235 {o : q_H} (d : Nat) (x1 y0 : Int32) (g : Nat → Nat → Int32) : q_sem (d) mX11_count 235 [.ref 0, .int x1] [.int y0] (q_K o g) = some (some (.int y0), q_K o g) := by
  exact k_iret (Y := mX11_count) dX11_count_235 rfl
theorem B_X11_count_247 {o : q_H} (d : Nat) (x1 y0 : Int32) (g : Nat → Nat → Int32) : q_sem (d) mX11_count 247 [.ref 0, .int x1] [.int y0] (q_K o g) = some (some (.int y0), q_K o g) := by
  exact k_iret (Y := mX11_count) dX11_count_247 rfl
theorem B_X11_count_255 {o : q_H} (d : Nat) (x1 y0 : Int32) (g : Nat → Nat → Int32) : q_sem (d) mX11_count 255 [.ref 0, .int x1] [.int y0] (q_K o g) = some (some (.int y0), q_K o g) := by
  exact k_iret (Y := mX11_count) dX11_count_255 rfl
theorem B_X11_count_261 {o : q_H} (d : Nat) (x1 y0 : Int32) (g : Nat → Nat → Int32) : q_sem (d) mX11_count 261 [.ref 0, .int x1] [.int y0] (q_K o g) = some (some (.int y0), q_K o g) := by
  exact k_iret (Y := mX11_count) dX11_count_261 rfl
theorem B_X11_found_0 {o : q_H} (d : Nat) (x1 : Int32) (g : Nat → Nat → Int32) : q_sem (d + 1) mX11_found 0 [.ref 0, .int x1] [] (q_K o g) = (q_sem d mX11_within 0 [.int x1, .int 1, .int 5] [] (q_K o g)).bind (fun r => q_sem (d + 1) mX11_found 6 [.ref 0, .int x1] (r.1.toList ++ []) r.2) := by
  refine (q_blk (Y := mX11_found) (q_dcC dX11_found_0 (q_dcC dX11_found_1 (q_dcC dX11_found_2 q_dcN))) (show _ = some (3, [.ref 0, .int x1], [.int 5, .int 1, .int x1]) from rfl)).trans ?_
  exact K_calS (d := d) (Y := mX11_found) (Z := mX11_within) (vs := [.int x1, .int 1, .int 5]) (rest := []) (la := [.int x1, .int 1, .int 5]) dX11_found_3 rfl rfl rfl rfl (Nat.le_of_ble_eq_true rfl) rfl (Nat.le_of_ble_eq_true rfl)
theorem B_X11_found_6 {o : q_H} (d : Nat) (x1 y0 : Int32) (g : Nat → Nat → Int32) : q_sem (d + 1) mX11_found 6 [.ref 0, .int x1] [.int y0] (q_K o g) = (if y0 = 0 then (q_sem d mX11_finding 0 [.ref 0, .int 1] [] (q_K o g)).bind (fun r => q_sem (d + 1) mX11_found 23 [.ref 0, .int x1] (r.1.toList ++ []) r.2) else (q_rg x1 6 (fun j2 => some (some (.int (g 97 j2)), q_K o g)))) := by
  refine (q_blk (Y := mX11_found) (q_dcC dX11_found_6 q_dcN) (show _ = some ((if q_cc .eq y0 0 = true then 18 else 9), [.ref 0, .int x1], []) from rfl)).trans ?_
  by_cases c1 : y0 = 0
  · rw [if_pos (show q_cc .eq y0 0 = true from decide_eq_true c1)]
    refine Eq.trans ?_ (if_pos c1).symm
    refine (q_blk (Y := mX11_found) (q_dcC dX11_found_18 (q_dcC dX11_found_19 q_dcN)) (show _ = some (20, [.ref 0, .int x1], [.int 1, .ref 0]) from rfl)).trans ?_
    exact K_calV (d := d) (Y := mX11_found) (Z := mX11_finding) (vs := [.int 1]) (rest := []) (la := [.ref 0, .int 1]) dX11_found_20 rfl rfl rfl rfl ⟨by decide, rfl⟩ (Nat.le_of_ble_eq_true rfl) rfl (Nat.le_of_ble_eq_true rfl)
  · rw [if_neg (show ¬ q_cc .eq y0 0 = true from fun z => c1 (of_decide_eq_true z))]
    refine Eq.trans ?_ (if_neg c1).symm
    refine (q_blk (Y := mX11_found) (q_dcC dX11_found_9 q_dcN) (show _ = some (10, [.ref 0, .int x1], [.ref 0]) from rfl)).trans ?_
    refine (k_getr (Y := mX11_found) dX11_found_10 rfl rfl ⟨by decide, rfl⟩ (by decide) rfl).trans ?_
    refine (q_blk (Y := mX11_found) (q_dcC dX11_found_13 q_dcN) (show _ = some (14, [.ref 0, .int x1], [.int x1, .ref 97]) from rfl)).trans ?_
    by_cases c2 : q_inn x1 6
    rotate_left
    · refine Eq.trans ?_ (q_rgF c2).symm
      exact K_ialdX (Y := mX11_found) dX11_found_14 ⟨by decide, rfl, rfl⟩ c2
    refine Eq.trans ?_ (q_rgT c2).symm
    refine (K_iald (Y := mX11_found) dX11_found_14 ⟨by decide, rfl, rfl⟩ c2).trans ?_
    refine (q_blk (Y := mX11_found) (q_dcC dX11_found_15 q_dcN) (show _ = some (23, [.ref 0, .int x1], [.int (g 97 x1.toNatClampNeg)]) from rfl)).trans ?_
    exact k_iret (Y := mX11_found) dX11_found_23 rfl
theorem B_X11_found_23 {o : q_H} (d : Nat) (x1 y0 : Int32) (g : Nat → Nat → Int32) : q_sem (d) mX11_found 23 [.ref 0, .int x1] [.int y0] (q_K o g) = some (some (.int y0), q_K o g) := by
  exact k_iret (Y := mX11_found) dX11_found_23 rfl
theorem B_X11_numberOrFull_0 {o : q_H} (d : Nat) (x1 : Int32) (g : Nat → Nat → Int32) : q_sem (d + 1) mX11_numberOrFull 0 [.ref 0, .int x1] [] (q_K o g) = (if 0 ≤ x1 then some (some (.int x1), q_K o g) else (q_sem d mX11_finding 0 [.ref 0, .int 4] [] (q_K o g)).bind (fun r => q_sem (d + 1) mX11_numberOrFull 9 [.ref 0, .int x1] (r.1.toList ++ []) r.2)) := by
  refine (q_blk (Y := mX11_numberOrFull) (q_dcC dX11_numberOrFull_0 (q_dcC dX11_numberOrFull_1 q_dcN)) (show _ = some ((if q_cc .ge x1 0 = true then 12 else 4), [.ref 0, .int x1], []) from rfl)).trans ?_
  by_cases c1 : 0 ≤ x1
  · rw [if_pos (show q_cc .ge x1 0 = true from decide_eq_true c1)]
    refine Eq.trans ?_ (if_pos c1).symm
    refine (q_blk (Y := mX11_numberOrFull) (q_dcC dX11_numberOrFull_12 q_dcN) (show _ = some (13, [.ref 0, .int x1], [.int x1]) from rfl)).trans ?_
    exact k_iret (Y := mX11_numberOrFull) dX11_numberOrFull_13 rfl
  · rw [if_neg (show ¬ q_cc .ge x1 0 = true from fun z => c1 (of_decide_eq_true z))]
    refine Eq.trans ?_ (if_neg c1).symm
    refine (q_blk (Y := mX11_numberOrFull) (q_dcC dX11_numberOrFull_4 (q_dcC dX11_numberOrFull_5 q_dcN)) (show _ = some (6, [.ref 0, .int x1], [.int 4, .ref 0]) from rfl)).trans ?_
    exact K_calV (d := d) (Y := mX11_numberOrFull) (Z := mX11_finding) (vs := [.int 4]) (rest := []) (la := [.ref 0, .int 4]) dX11_numberOrFull_6 rfl rfl rfl rfl ⟨by decide, rfl⟩ (Nat.le_of_ble_eq_true rfl) rfl (Nat.le_of_ble_eq_true rfl)
theorem B_X11_numberOrFull_9 {o : q_H} (d : Nat) (x1 y0 : Int32) (g : Nat → Nat → Int32) : q_sem (d) mX11_numberOrFull 9 [.ref 0, .int x1] [.int y0] (q_K o g) = some (some (.int y0), q_K o g) := by
  refine (q_blk (Y := mX11_numberOrFull) (q_dcC dX11_numberOrFull_9 q_dcN) (show _ = some (13, [.ref 0, .int x1], [.int y0]) from rfl)).trans ?_
  exact k_iret (Y := mX11_numberOrFull) dX11_numberOrFull_13 rfl
theorem B_X11_changed_0 {o : q_H} {t : Nat} (ht : q_is t 5) (d : Nat) (x1 x2 x3 : Int32) (g : Nat → Nat → Int32) : q_sem (d + 1) mX11_changed 0 [.ref t, .int x1, .int x2, .int x3, .retAddr 0, .retAddr 0] [] (q_K o g) = (if x3 = 0 then (q_sem d mX7_get 0 [.ref t, .int x1, .int x2] [] (q_K o g)).bind (fun r => q_sem (d + 1) mX11_changed 17 [.ref t, .int x1, .int x2, .int x3, .int 0, .retAddr 0] (r.1.toList ++ []) r.2) else (q_sem d mX7_get 0 [.ref t, .int x1, .int x2] [] (q_K o g)).bind (fun r => q_sem (d + 1) mX11_changed 17 [.ref t, .int x1, .int x2, .int x3, .int 1, .retAddr 0] (r.1.toList ++ []) r.2)) := by
  refine (q_blk (Y := mX11_changed) (q_dcC dX11_changed_0 (q_dcC dX11_changed_1 q_dcN)) (show _ = some ((if q_cc .eq x3 0 = true then 8 else 4), [.ref t, .int x1, .int x2, .int x3, .retAddr 0, .retAddr 0], []) from rfl)).trans ?_
  by_cases c1 : x3 = 0
  · rw [if_pos (show q_cc .eq x3 0 = true from decide_eq_true c1)]
    refine Eq.trans ?_ (if_pos c1).symm
    refine (q_blk (Y := mX11_changed) (q_dcC dX11_changed_8 (q_dcC dX11_changed_9 (q_dcC dX11_changed_11 (q_dcC dX11_changed_12 (q_dcC dX11_changed_13 q_dcN))))) (show _ = some (14, [.ref t, .int x1, .int x2, .int x3, .int 0, .retAddr 0], [.int x2, .int x1, .ref t]) from rfl)).trans ?_
    exact K_calV (d := d) (Y := mX11_changed) (Z := mX7_get) (vs := [.int x1, .int x2]) (rest := []) (la := [.ref t, .int x1, .int x2]) dX11_changed_14 rfl rfl rfl rfl ht (Nat.le_of_ble_eq_true rfl) rfl (Nat.le_of_ble_eq_true rfl)
  · rw [if_neg (show ¬ q_cc .eq x3 0 = true from fun z => c1 (of_decide_eq_true z))]
    refine Eq.trans ?_ (if_neg c1).symm
    refine (q_blk (Y := mX11_changed) (q_dcC dX11_changed_4 (q_dcC dX11_changed_5 q_dcN)) (show _ = some (9, [.ref t, .int x1, .int x2, .int x3, .retAddr 0, .retAddr 0], [.int 1]) from rfl)).trans ?_
    refine (q_blk (Y := mX11_changed) (q_dcC dX11_changed_9 (q_dcC dX11_changed_11 (q_dcC dX11_changed_12 (q_dcC dX11_changed_13 q_dcN)))) (show _ = some (14, [.ref t, .int x1, .int x2, .int x3, .int 1, .retAddr 0], [.int x2, .int x1, .ref t]) from rfl)).trans ?_
    exact K_calV (d := d) (Y := mX11_changed) (Z := mX7_get) (vs := [.int x1, .int x2]) (rest := []) (la := [.ref t, .int x1, .int x2]) dX11_changed_14 rfl rfl rfl rfl ht (Nat.le_of_ble_eq_true rfl) rfl (Nat.le_of_ble_eq_true rfl)
theorem B_X11_changed_17 {o : q_H} {t : Nat} (ht : q_is t 5) (d : Nat) (x1 x2 x3 x4 y0 : Int32) (g : Nat → Nat → Int32) : q_sem (d + 1) mX11_changed 17 [.ref t, .int x1, .int x2, .int x3, .int x4, .retAddr 0] [.int y0] (q_K o g) = (q_sem d mX7_write 0 [.ref t, .int x1, .int x2, .int x4] [] (q_K o g)).bind (fun r => q_sem (d + 1) mX11_changed 27 [.ref t, .int x1, .int x2, .int x3, .int x4, .int y0] (r.1.toList ++ []) r.2) := by
  refine (q_blk (Y := mX11_changed) (q_dcC dX11_changed_17 (q_dcC dX11_changed_19 (q_dcC dX11_changed_20 (q_dcC dX11_changed_21 (q_dcC dX11_changed_22 q_dcN))))) (show _ = some (24, [.ref t, .int x1, .int x2, .int x3, .int x4, .int y0], [.int x4, .int x2, .int x1, .ref t]) from rfl)).trans ?_
  exact K_calV (d := d) (Y := mX11_changed) (Z := mX7_write) (vs := [.int x1, .int x2, .int x4]) (rest := []) (la := [.ref t, .int x1, .int x2, .int x4]) dX11_changed_24 rfl rfl rfl rfl ht (Nat.le_of_ble_eq_true rfl) rfl (Nat.le_of_ble_eq_true rfl)
theorem B_X11_changed_27 {o : q_H} {t : Nat} (ht : q_is t 5) (d : Nat) (x1 x2 x3 x4 x5 : Int32) (g : Nat → Nat → Int32) : q_sem (d) mX11_changed 27 [.ref t, .int x1, .int x2, .int x3, .int x4, .int x5] [] (q_K o g) = (if x5 = x4 then some (some (.int 0), q_K o g) else some (some (.int 1), q_K o g)) := by
  refine (q_blk (Y := mX11_changed) (q_dcC dX11_changed_27 (q_dcC dX11_changed_29 (q_dcC dX11_changed_31 q_dcN))) (show _ = some ((if q_cc .ne x5 x4 = true then 38 else 34), [.ref t, .int x1, .int x2, .int x3, .int x4, .int x5], []) from rfl)).trans ?_
  by_cases c1 : x5 = x4
  · rw [if_neg (show ¬ q_cc .ne x5 x4 = true from fun z => (of_decide_eq_true z : ¬ x5 = x4) c1)]
    refine Eq.trans ?_ (if_pos c1).symm
    refine (q_blk (Y := mX11_changed) (q_dcC dX11_changed_34 (q_dcC dX11_changed_35 q_dcN)) (show _ = some (39, [.ref t, .int x1, .int x2, .int x3, .int x4, .int x5], [.int 0]) from rfl)).trans ?_
    exact k_iret (Y := mX11_changed) dX11_changed_39 rfl
  · rw [if_pos (show q_cc .ne x5 x4 = true from decide_eq_true c1)]
    refine Eq.trans ?_ (if_neg c1).symm
    refine (q_blk (Y := mX11_changed) (q_dcC dX11_changed_38 q_dcN) (show _ = some (39, [.ref t, .int x1, .int x2, .int x3, .int x4, .int x5], [.int 1]) from rfl)).trans ?_
    exact k_iret (Y := mX11_changed) dX11_changed_39 rfl
