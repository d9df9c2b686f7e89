theorem dX9_copyFrom_82 : decode cX9_copyFrom 82 = .ok (.aload_n 1, 1) := by decide +kernel
theorem dX9_copyFrom_83 : decode cX9_copyFrom 83 = .ok (.getfield 39, 3) := by decide +kernel
theorem dX9_copyFrom_86 : decode cX9_copyFrom 86 = .ok (.putfield 39, 3) := by decide +kernel
theorem dX9_copyFrom_89 : decode cX9_copyFrom 89 = .ok (.aload_n 0, 1) := by decide +kernel
theorem dX9_copyFrom_90 : decode cX9_copyFrom 90 = .ok (.aload_n 1, 1) := by decide +kernel
theorem dX9_copyFrom_91 : decode cX9_copyFrom 91 = .ok (.getfield 42, 3) := by decide +kernel
theorem dX9_copyFrom_94 : decode cX9_copyFrom 94 = .ok (.putfield 42, 3) := by decide +kernel
theorem dX9_copyFrom_97 : decode cX9_copyFrom 97 = .ok (.return_, 1) := by decide +kernel
theorem dX9_letPosts_0 : decode cX9_letPosts 0 = .ok (.iconst 0, 1) := by decide +kernel
theorem dX9_letPosts_1 : decode cX9_letPosts 1 = .ok (.istore_n 1, 1) := by decide +kernel
theorem dX9_letPosts_2 : decode cX9_letPosts 2 = .ok (.iconst 0, 1) := by decide +kernel
theorem dX9_letPosts_3 : decode cX9_letPosts 3 = .ok (.istore_n 2, 1) := by decide +kernel
theorem dX9_letPosts_4 : decode cX9_letPosts 4 = .ok (.iload_n 2, 1) := by decide +kernel
theorem dX9_letPosts_5 : decode cX9_letPosts 5 = .ok (.bipush 6, 2) := by decide +kernel
theorem dX9_letPosts_7 : decode cX9_letPosts 7 = .ok (.if_icmp .ge 25, 3) := by decide +kernel
theorem dX9_letPosts_10 : decode cX9_letPosts 10 = .ok (.aload_n 0, 1) := by decide +kernel
theorem dX9_letPosts_11 : decode cX9_letPosts 11 = .ok (.getfield 18, 3) := by decide +kernel
theorem dX9_letPosts_14 : decode cX9_letPosts 14 = .ok (.iload_n 2, 1) := by decide +kernel
theorem dX9_letPosts_15 : decode cX9_letPosts 15 = .ok (.iaload, 1) := by decide +kernel
theorem dX9_letPosts_16 : decode cX9_letPosts 16 = .ok (.iconst (-1), 1) := by decide +kernel
theorem dX9_letPosts_17 : decode cX9_letPosts 17 = .ok (.if_icmp .eq 9, 3) := by decide +kernel
theorem dX9_letPosts_20 : decode cX9_letPosts 20 = .ok (.iload_n 1, 1) := by decide +kernel
theorem dX9_letPosts_21 : decode cX9_letPosts 21 = .ok (.iconst 1, 1) := by decide +kernel
theorem dX9_letPosts_22 : decode cX9_letPosts 22 = .ok (.iload_n 2, 1) := by decide +kernel
theorem dX9_letPosts_23 : decode cX9_letPosts 23 = .ok (.ishl, 1) := by decide +kernel
theorem dX9_letPosts_24 : decode cX9_letPosts 24 = .ok (.ior, 1) := by decide +kernel
theorem dX9_letPosts_25 : decode cX9_letPosts 25 = .ok (.istore_n 1, 1) := by decide +kernel
theorem dX9_letPosts_26 : decode cX9_letPosts 26 = .ok (.iinc 2 1, 3) := by decide +kernel
theorem dX9_letPosts_29 : decode cX9_letPosts 29 = .ok (.goto (-25), 3) := by decide +kernel
theorem dX9_letPosts_32 : decode cX9_letPosts 32 = .ok (.iload_n 1, 1) := by decide +kernel
theorem dX9_letPosts_33 : decode cX9_letPosts 33 = .ok (.ireturn, 1) := by decide +kernel
theorem dX9_postOf_0 : decode cX9_postOf 0 = .ok (.iconst 0, 1) := by decide +kernel
theorem dX9_postOf_1 : decode cX9_postOf 1 = .ok (.istore_n 2, 1) := by decide +kernel
theorem dX9_postOf_2 : decode cX9_postOf 2 = .ok (.iload_n 2, 1) := by decide +kernel
theorem dX9_postOf_3 : decode cX9_postOf 3 = .ok (.bipush 6, 2) := by decide +kernel
theorem dX9_postOf_5 : decode cX9_postOf 5 = .ok (.if_icmp .ge 21, 3) := by decide +kernel
theorem dX9_postOf_8 : decode cX9_postOf 8 = .ok (.aload_n 0, 1) := by decide +kernel
theorem dX9_postOf_9 : decode cX9_postOf 9 = .ok (.getfield 18, 3) := by decide +kernel
theorem dX9_postOf_12 : decode cX9_postOf 12 = .ok (.iload_n 2, 1) := by decide +kernel
theorem dX9_postOf_13 : decode cX9_postOf 13 = .ok (.iaload, 1) := by decide +kernel
theorem dX9_postOf_14 : decode cX9_postOf 14 = .ok (.iload_n 1, 1) := by decide +kernel
theorem dX9_postOf_15 : decode cX9_postOf 15 = .ok (.if_icmp .ne 5, 3) := by decide +kernel
theorem dX9_postOf_18 : decode cX9_postOf 18 = .ok (.iload_n 2, 1) := by decide +kernel
theorem dX9_postOf_19 : decode cX9_postOf 19 = .ok (.ireturn, 1) := by decide +kernel
theorem dX9_postOf_20 : decode cX9_postOf 20 = .ok (.iinc 2 1, 3) := by decide +kernel
theorem dX9_postOf_23 : decode cX9_postOf 23 = .ok (.goto (-21), 3) := by decide +kernel
theorem dX9_postOf_26 : decode cX9_postOf 26 = .ok (.iconst (-1), 1) := by decide +kernel
theorem dX9_postOf_27 : decode cX9_postOf 27 = .ok (.ireturn, 1) := by decide +kernel
theorem dX9_worthOf_0 : decode cX9_worthOf 0 = .ok (.aload_n 0, 1) := by decide +kernel
theorem dX9_worthOf_1 : decode cX9_worthOf 1 = .ok (.getfield 21, 3) := by decide +kernel
theorem dX9_worthOf_4 : decode cX9_worthOf 4 = .ok (.iload_n 3, 1) := by decide +kernel
theorem dX9_worthOf_5 : decode cX9_worthOf 5 = .ok (.iaload, 1) := by decide +kernel
theorem dX9_worthOf_6 : decode cX9_worthOf 6 = .ok (.aload_n 1, 1) := by decide +kernel
theorem dX9_worthOf_7 : decode cX9_worthOf 7 = .ok (.getfield 51, 3) := by decide +kernel
theorem dX9_worthOf_10 : decode cX9_worthOf 10 = .ok (.iload_n 3, 1) := by decide +kernel
theorem dX9_worthOf_11 : decode cX9_worthOf 11 = .ok (.iaload, 1) := by decide +kernel
theorem dX9_worthOf_12 : decode cX9_worthOf 12 = .ok (.aload_n 1, 1) := by decide +kernel
theorem dX9_worthOf_13 : decode cX9_worthOf 13 = .ok (.getfield 54, 3) := by decide +kernel
theorem dX9_worthOf_16 : decode cX9_worthOf 16 = .ok (.iload_n 2, 1) := by decide +kernel
theorem dX9_worthOf_17 : decode cX9_worthOf 17 = .ok (.iaload, 1) := by decide +kernel
theorem dX9_worthOf_18 : decode cX9_worthOf 18 = .ok (.imul, 1) := by decide +kernel
theorem dX9_worthOf_19 : decode cX9_worthOf 19 = .ok (.iadd, 1) := by decide +kernel
theorem dX9_worthOf_20 : decode cX9_worthOf 20 = .ok (.ireturn, 1) := by decide +kernel
theorem dX9_lease_0 : decode cX9_lease 0 = .ok (.aload_n 0, 1) := by decide +kernel
theorem dX9_lease_1 : decode cX9_lease 1 = .ok (.getfield 18, 3) := by decide +kernel
theorem dX9_lease_4 : decode cX9_lease 4 = .ok (.iload_n 1, 1) := by decide +kernel
theorem dX9_lease_5 : decode cX9_lease 5 = .ok (.iload_n 2, 1) := by decide +kernel
theorem dX9_lease_6 : decode cX9_lease 6 = .ok (.iastore, 1) := by decide +kernel
theorem dX9_lease_7 : decode cX9_lease 7 = .ok (.aload_n 0, 1) := by decide +kernel
theorem dX9_lease_8 : decode cX9_lease 8 = .ok (.dup, 1) := by decide +kernel
theorem dX9_lease_9 : decode cX9_lease 9 = .ok (.getfield 35, 3) := by decide +kernel
theorem dX9_lease_12 : decode cX9_lease 12 = .ok (.iconst 1, 1) := by decide +kernel
theorem dX9_lease_13 : decode cX9_lease 13 = .ok (.iload_n 1, 1) := by decide +kernel
theorem dX9_lease_14 : decode cX9_lease 14 = .ok (.ishl, 1) := by decide +kernel
theorem dX9_lease_15 : decode cX9_lease 15 = .ok (.ior, 1) := by decide +kernel
theorem dX9_lease_16 : decode cX9_lease 16 = .ok (.putfield 35, 3) := by decide +kernel
theorem dX9_lease_19 : decode cX9_lease 19 = .ok (.aload_n 0, 1) := by decide +kernel
theorem dX9_lease_20 : decode cX9_lease 20 = .ok (.getfield 24, 3) := by decide +kernel
theorem dX9_lease_23 : decode cX9_lease 23 = .ok (.iload_n 2, 1) := by decide +kernel
theorem dX9_lease_24 : decode cX9_lease 24 = .ok (.ldc 57, 2) := by decide +kernel
theorem dX9_lease_26 : decode cX9_lease 26 = .ok (.aload_n 0, 1) := by decide +kernel
theorem dX9_lease_27 : decode cX9_lease 27 = .ok (.getfield 24, 3) := by decide +kernel
theorem dX9_lease_30 : decode cX9_lease 30 = .ok (.iload_n 2, 1) := by decide +kernel
theorem dX9_lease_31 : decode cX9_lease 31 = .ok (.iaload, 1) := by decide +kernel
theorem dX9_lease_32 : decode cX9_lease 32 = .ok (.iload_n 3, 1) := by decide +kernel
theorem dX9_lease_33 : decode cX9_lease 33 = .ok (.iadd, 1) := by decide +kernel
theorem dX9_lease_34 : decode cX9_lease 34 = .ok (.invokestatic 58, 3) := by decide +kernel
theorem dX9_lease_37 : decode cX9_lease 37 = .ok (.iastore, 1) := by decide +kernel
theorem dX9_lease_38 : decode cX9_lease 38 = .ok (.aload_n 0, 1) := by decide +kernel
theorem dX9_lease_39 : decode cX9_lease 39 = .ok (.ldc 57, 2) := by decide +kernel
theorem dX9_lease_41 : decode cX9_lease 41 = .ok (.aload_n 0, 1) := by decide +kernel
theorem dX9_lease_42 : decode cX9_lease 42 = .ok (.getfield 42, 3) := by decide +kernel
theorem dX9_lease_45 : decode cX9_lease 45 = .ok (.iload_n 3, 1) := by decide +kernel
theorem dX9_lease_46 : decode cX9_lease 46 = .ok (.iadd, 1) := by decide +kernel
theorem dX9_lease_47 : decode cX9_lease 47 = .ok (.invokestatic 58, 3) := by decide +kernel
theorem dX9_lease_50 : decode cX9_lease 50 = .ok (.putfield 42, 3) := by decide +kernel
theorem dX9_lease_53 : decode cX9_lease 53 = .ok (.return_, 1) := by decide +kernel
theorem dX9_freeCellBeside_0 : decode cX9_freeCellBeside 0 = .ok (.aload_n 0, 1) := by decide +kernel
theorem dX9_freeCellBeside_1 : decode cX9_freeCellBeside 1 = .ok (.getfield 15, 3) := by decide +kernel
theorem dX9_freeCellBeside_4 : decode cX9_freeCellBeside 4 = .ok (.iload_n 2, 1) := by decide +kernel
theorem dX9_freeCellBeside_5 : decode cX9_freeCellBeside 5 = .ok (.iaload, 1) := by decide +kernel
theorem dX9_freeCellBeside_6 : decode cX9_freeCellBeside 6 = .ok (.iload_n 3, 1) := by decide +kernel
theorem dX9_freeCellBeside_7 : decode cX9_freeCellBeside 7 = .ok (.ifCond .eq 7, 3) := by decide +kernel
theorem dX9_freeCellBeside_10 : decode cX9_freeCellBeside 10 = .ok (.iconst 1, 1) := by decide +kernel
theorem dX9_freeCellBeside_11 : decode cX9_freeCellBeside 11 = .ok (.goto 4, 3) := by decide +kernel
theorem dX9_freeCellBeside_14 : decode cX9_freeCellBeside 14 = .ok (.iconst (-1), 1) := by decide +kernel
theorem dX9_freeCellBeside_15 : decode cX9_freeCellBeside 15 = .ok (.iadd, 1) := by decide +kernel
theorem dX9_freeCellBeside_16 : decode cX9_freeCellBeside 16 = .ok (.istore 4, 2) := by decide +kernel
theorem dX9_freeCellBeside_18 : decode cX9_freeCellBeside 18 = .ok (.iload 4, 2) := by decide +kernel
theorem dX9_freeCellBeside_20 : decode cX9_freeCellBeside 20 = .ok (.ifCond .lt 12, 3) := by decide +kernel
theorem dX9_freeCellBeside_23 : decode cX9_freeCellBeside 23 = .ok (.iload 4, 2) := by decide +kernel
theorem dX9_freeCellBeside_25 : decode cX9_freeCellBeside 25 = .ok (.aload_n 1, 1) := by decide +kernel
theorem dX9_freeCellBeside_26 : decode cX9_freeCellBeside 26 = .ok (.getfield 64, 3) := by decide +kernel
theorem dX9_freeCellBeside_29 : decode cX9_freeCellBeside 29 = .ok (.if_icmp .lt 5, 3) := by decide +kernel
theorem dX9_freeCellBeside_32 : decode cX9_freeCellBeside 32 = .ok (.iconst (-1), 1) := by decide +kernel
theorem dX9_freeCellBeside_33 : decode cX9_freeCellBeside 33 = .ok (.ireturn, 1) := by decide +kernel
theorem dX9_freeCellBeside_34 : decode cX9_freeCellBeside 34 = .ok (.iconst 0, 1) := by decide +kernel
theorem dX9_freeCellBeside_35 : decode cX9_freeCellBeside 35 = .ok (.istore 5, 2) := by decide +kernel
theorem dX9_freeCellBeside_37 : decode cX9_freeCellBeside 37 = .ok (.iload 5, 2) := by decide +kernel
theorem dX9_freeCellBeside_39 : decode cX9_freeCellBeside 39 = .ok (.aload_n 1, 1) := by decide +kernel
theorem dX9_freeCellBeside_40 : decode cX9_freeCellBeside 40 = .ok (.getfield 67, 3) := by decide +kernel
theorem dX9_freeCellBeside_43 : decode cX9_freeCellBeside 43 = .ok (.if_icmp .ge 23, 3) := by decide +kernel
theorem dX9_freeCellBeside_46 : decode cX9_freeCellBeside 46 = .ok (.aload_n 0, 1) := by decide +kernel
theorem dX9_freeCellBeside_47 : decode cX9_freeCellBeside 47 = .ok (.getfield 15, 3) := by decide +kernel
theorem dX9_freeCellBeside_50 : decode cX9_freeCellBeside 50 = .ok (.iload 5, 2) := by decide +kernel
theorem dX9_freeCellBeside_52 : decode cX9_freeCellBeside 52 = .ok (.iaload, 1) := by decide +kernel
theorem dX9_freeCellBeside_53 : decode cX9_freeCellBeside 53 = .ok (.iload 4, 2) := by decide +kernel
theorem dX9_freeCellBeside_55 : decode cX9_freeCellBeside 55 = .ok (.if_icmp .ne 5, 3) := by decide +kernel
theorem dX9_freeCellBeside_58 : decode cX9_freeCellBeside 58 = .ok (.iconst (-1), 1) := by decide +kernel
theorem dX9_freeCellBeside_59 : decode cX9_freeCellBeside 59 = .ok (.ireturn, 1) := by decide +kernel
theorem dX9_freeCellBeside_60 : decode cX9_freeCellBeside 60 = .ok (.iinc 5 1, 3) := by decide +kernel
theorem dX9_freeCellBeside_63 : decode cX9_freeCellBeside 63 = .ok (.goto (-26), 3) := by decide +kernel
theorem dX9_freeCellBeside_66 : decode cX9_freeCellBeside 66 = .ok (.iload 4, 2) := by decide +kernel
theorem dX9_freeCellBeside_68 : decode cX9_freeCellBeside 68 = .ok (.ireturn, 1) := by decide +kernel
theorem dX9_allSnow_0 : decode cX9_allSnow 0 = .ok (.iconst 0, 1) := by decide +kernel
theorem dX9_allSnow_1 : decode cX9_allSnow 1 = .ok (.istore_n 1, 1) := by decide +kernel
theorem dX9_allSnow_2 : decode cX9_allSnow 2 = .ok (.iconst 0, 1) := by decide +kernel
theorem dX9_allSnow_3 : decode cX9_allSnow 3 = .ok (.istore_n 2, 1) := by decide +kernel
theorem dX9_allSnow_4 : decode cX9_allSnow 4 = .ok (.iload_n 2, 1) := by decide +kernel
theorem dX9_allSnow_5 : decode cX9_allSnow 5 = .ok (.bipush 12, 2) := by decide +kernel
theorem dX9_allSnow_7 : decode cX9_allSnow 7 = .ok (.if_icmp .ge 18, 3) := by decide +kernel
theorem dX9_allSnow_10 : decode cX9_allSnow 10 = .ok (.iload_n 1, 1) := by decide +kernel
theorem dX9_allSnow_11 : decode cX9_allSnow 11 = .ok (.aload_n 0, 1) := by decide +kernel
theorem dX9_allSnow_12 : decode cX9_allSnow 12 = .ok (.getfield 9, 3) := by decide +kernel
theorem dX9_allSnow_15 : decode cX9_allSnow 15 = .ok (.iload_n 2, 1) := by decide +kernel
theorem dX9_allSnow_16 : decode cX9_allSnow 16 = .ok (.iaload, 1) := by decide +kernel
theorem dX9_allSnow_17 : decode cX9_allSnow 17 = .ok (.iadd, 1) := by decide +kernel
theorem dX9_allSnow_18 : decode cX9_allSnow 18 = .ok (.istore_n 1, 1) := by decide +kernel
theorem dX9_allSnow_19 : decode cX9_allSnow 19 = .ok (.iinc 2 1, 3) := by decide +kernel
theorem dX9_allSnow_22 : decode cX9_allSnow 22 = .ok (.goto (-18), 3) := by decide +kernel
theorem dX9_allSnow_25 : decode cX9_allSnow 25 = .ok (.iload_n 1, 1) := by decide +kernel
theorem dX9_allSnow_26 : decode cX9_allSnow 26 = .ok (.ireturn, 1) := by decide +kernel
set_option maxRecDepth 20000 in
theorem ggX9_openRoad_X5_isRoad : GoodIn wsX9_openRoad wsX5_isRoad := goodIn_r _ [8, 9, 10, 11, 12, 13, 14, 15, 16, 17, 18, 19, 20, 21, 22] (by decide +kernel) (by decide +kernel)
set_option maxRecDepth 20000 in
theorem gX9_openRoad_X5_isRoad : GoodIn wsX9_openRoad (wsV RX9 70 RX5 yX5_isRoad wsX5_isRoad) := goodIn_app (goodIn_of _ (by decide +kernel)) ggX9_openRoad_X5_isRoad
theorem dX9_openRoad_0 : decode cX9_openRoad 0 = .ok (.iconst 0, 1) := by decide +kernel
theorem dX9_openRoad_1 : decode cX9_openRoad 1 = .ok (.istore_n 2, 1) := by decide +kernel
theorem dX9_openRoad_2 : decode cX9_openRoad 2 = .ok (.iconst 0, 1) := by decide +kernel
theorem dX9_openRoad_3 : decode cX9_openRoad 3 = .ok (.istore_n 3, 1) := by decide +kernel
theorem dX9_openRoad_4 : decode cX9_openRoad 4 = .ok (.iload_n 3, 1) := by decide +kernel
theorem dX9_openRoad_5 : decode cX9_openRoad 5 = .ok (.aload_n 1, 1) := by decide +kernel
theorem dX9_openRoad_6 : decode cX9_openRoad 6 = .ok (.getfield 64, 3) := by decide +kernel
theorem dX9_openRoad_9 : decode cX9_openRoad 9 = .ok (.if_icmp .ge 36, 3) := by decide +kernel
theorem dX9_openRoad_12 : decode cX9_openRoad 12 = .ok (.aload_n 1, 1) := by decide +kernel
theorem dX9_openRoad_13 : decode cX9_openRoad 13 = .ok (.iload_n 3, 1) := by decide +kernel
theorem dX9_openRoad_14 : decode cX9_openRoad 14 = .ok (.invokevirtual 70, 3) := by decide +kernel
theorem dX9_openRoad_17 : decode cX9_openRoad 17 = .ok (.ifCond .eq 22, 3) := by decide +kernel
theorem dX9_openRoad_20 : decode cX9_openRoad 20 = .ok (.aload_n 0, 1) := by decide +kernel
theorem dX9_openRoad_21 : decode cX9_openRoad 21 = .ok (.getfield 9, 3) := by decide +kernel
theorem dX9_openRoad_24 : decode cX9_openRoad 24 = .ok (.iload_n 3, 1) := by decide +kernel
theorem dX9_openRoad_25 : decode cX9_openRoad 25 = .ok (.iaload, 1) := by decide +kernel
theorem dX9_openRoad_26 : decode cX9_openRoad 26 = .ok (.aload_n 1, 1) := by decide +kernel
theorem dX9_openRoad_27 : decode cX9_openRoad 27 = .ok (.getfield 74, 3) := by decide +kernel
theorem dX9_openRoad_30 : decode cX9_openRoad 30 = .ok (.if_icmp .gt 9, 3) := by decide +kernel
theorem dX9_openRoad_33 : decode cX9_openRoad 33 = .ok (.iload_n 2, 1) := by decide +kernel
theorem dX9_openRoad_34 : decode cX9_openRoad 34 = .ok (.iconst 1, 1) := by decide +kernel
theorem dX9_openRoad_35 : decode cX9_openRoad 35 = .ok (.iload_n 3, 1) := by decide +kernel
theorem dX9_openRoad_36 : decode cX9_openRoad 36 = .ok (.ishl, 1) := by decide +kernel
theorem dX9_openRoad_37 : decode cX9_openRoad 37 = .ok (.ior, 1) := by decide +kernel
theorem dX9_openRoad_38 : decode cX9_openRoad 38 = .ok (.istore_n 2, 1) := by decide +kernel
theorem dX9_openRoad_39 : decode cX9_openRoad 39 = .ok (.iinc 3 1, 3) := by decide +kernel
theorem dX9_openRoad_42 : decode cX9_openRoad 42 = .ok (.goto (-38), 3) := by decide +kernel
theorem dX9_openRoad_45 : decode cX9_openRoad 45 = .ok (.iload_n 2, 1) := by decide +kernel
theorem dX9_openRoad_46 : decode cX9_openRoad 46 = .ok (.ireturn, 1) := by decide +kernel
set_option maxRecDepth 20000 in
theorem ggX9_roadIsOpen_X9_openRoad : GoodIn wsX9_roadIsOpen wsX9_openRoad := goodIn_r _ [6, 7, 8, 9, 10, 11, 12, 13, 14, 15, 16, 17, 18, 19, 20, 21, 22, 23, 24, 25, 26, 27, 28, 29, 30, 31, 32, 33, 34, 35, 36] (by decide +kernel) (by decide +kernel)
set_option maxRecDepth 20000 in
theorem gX9_roadIsOpen_X9_openRoad : GoodIn wsX9_roadIsOpen (wsV RX9 77 RX9 yX9_openRoad wsX9_openRoad) := goodIn_app (goodIn_of _ (by decide +kernel)) ggX9_roadIsOpen_X9_openRoad
theorem dX9_roadIsOpen_0 : decode cX9_roadIsOpen 0 = .ok (.aload_n 0, 1) := by decide +kernel
theorem dX9_roadIsOpen_1 : decode cX9_roadIsOpen 1 = .ok (.aload_n 1, 1) := by decide +kernel
theorem dX9_roadIsOpen_2 : decode cX9_roadIsOpen 2 = .ok (.invokevirtual 77, 3) := by decide +kernel
theorem dX9_roadIsOpen_5 : decode cX9_roadIsOpen 5 = .ok (.aload_n 1, 1) := by decide +kernel
theorem dX9_roadIsOpen_6 : decode cX9_roadIsOpen 6 = .ok (.getfield 81, 3) := by decide +kernel
theorem dX9_roadIsOpen_9 : decode cX9_roadIsOpen 9 = .ok (.if_icmp .ne 7, 3) := by decide +kernel
theorem dX9_roadIsOpen_12 : decode cX9_roadIsOpen 12 = .ok (.iconst 1, 1) := by decide +kernel
theorem dX9_roadIsOpen_13 : decode cX9_roadIsOpen 13 = .ok (.goto 4, 3) := by decide +kernel
theorem dX9_roadIsOpen_16 : decode cX9_roadIsOpen 16 = .ok (.iconst 0, 1) := by decide +kernel
theorem dX9_roadIsOpen_17 : decode cX9_roadIsOpen 17 = .ok (.ireturn, 1) := by decide +kernel
theorem dX9_melt_0 : decode cX9_melt 0 = .ok (.iconst 0, 1) := by decide +kernel
theorem dX9_melt_1 : decode cX9_melt 1 = .ok (.istore_n 2, 1) := by decide +kernel
theorem dX9_melt_2 : decode cX9_melt 2 = .ok (.iload_n 2, 1) := by decide +kernel
theorem dX9_melt_3 : decode cX9_melt 3 = .ok (.bipush 12, 2) := by decide +kernel
theorem dX9_melt_5 : decode cX9_melt 5 = .ok (.if_icmp .ge 27, 3) := by decide +kernel
theorem dX9_melt_8 : decode cX9_melt 8 = .ok (.aload_n 0, 1) := by decide +kernel
theorem dX9_melt_9 : decode cX9_melt 9 = .ok (.getfield 9, 3) := by decide +kernel
theorem dX9_melt_12 : decode cX9_melt 12 = .ok (.iload_n 2, 1) := by decide +kernel
theorem dX9_melt_13 : decode cX9_melt 13 = .ok (.iconst 0, 1) := by decide +kernel
theorem dX9_melt_14 : decode cX9_melt 14 = .ok (.aload_n 0, 1) := by decide +kernel
theorem dX9_melt_15 : decode cX9_melt 15 = .ok (.getfield 9, 3) := by decide +kernel
theorem dX9_melt_18 : decode cX9_melt 18 = .ok (.iload_n 2, 1) := by decide +kernel
theorem dX9_melt_19 : decode cX9_melt 19 = .ok (.iaload, 1) := by decide +kernel
theorem dX9_melt_20 : decode cX9_melt 20 = .ok (.iload_n 1, 1) := by decide +kernel
theorem dX9_melt_21 : decode cX9_melt 21 = .ok (.isub, 1) := by decide +kernel
theorem dX9_melt_22 : decode cX9_melt 22 = .ok (.invokestatic 84, 3) := by decide +kernel
theorem dX9_melt_25 : decode cX9_melt 25 = .ok (.iastore, 1) := by decide +kernel
theorem dX9_melt_26 : decode cX9_melt 26 = .ok (.iinc 2 1, 3) := by decide +kernel
theorem dX9_melt_29 : decode cX9_melt 29 = .ok (.goto (-27), 3) := by decide +kernel
theorem dX9_melt_32 : decode cX9_melt 32 = .ok (.return_, 1) := by decide +kernel
set_option maxRecDepth 20000 in
theorem ggX9_passHours_X9_blow : GoodIn wsX9_passHours wsX9_blow := goodIn_r _ [9, 10, 11, 12, 13, 14, 15, 16, 17, 18, 19, 20, 21, 2, 22, 23, 24, 25, 26, 27, 28, 29, 30, 8, 31, 32, 33, 34, 35, 36, 37, 38, 39, 40, 41, 42, 43, 44, 45, 46, 47, 48, 49, 50, 51, 52, 53] (by decide +kernel) (by decide +kernel)
set_option maxRecDepth 20000 in
theorem gX9_passHours_X9_blow : GoodIn wsX9_passHours (wsV RX9 90 RX9 yX9_blow wsX9_blow) := goodIn_app (goodIn_of _ (by decide +kernel)) ggX9_passHours_X9_blow
theorem dX9_passHours_0 : decode cX9_passHours 0 = .ok (.iconst 0, 1) := by decide +kernel
theorem dX9_passHours_1 : decode cX9_passHours 1 = .ok (.istore 4, 2) := by decide +kernel
theorem dX9_passHours_3 : decode cX9_passHours 3 = .ok (.iload 4, 2) := by decide +kernel
theorem dX9_passHours_5 : decode cX9_passHours 5 = .ok (.iload_n 2, 1) := by decide +kernel
theorem dX9_passHours_6 : decode cX9_passHours 6 = .ok (.if_icmp .ge 59, 3) := by decide +kernel
theorem dX9_passHours_9 : decode cX9_passHours 9 = .ok (.aload_n 1, 1) := by decide +kernel
theorem dX9_passHours_10 : decode cX9_passHours 10 = .ok (.getfield 87, 3) := by decide +kernel
theorem dX9_passHours_13 : decode cX9_passHours 13 = .ok (.ifCond .ne 15, 3) := by decide +kernel
theorem dX9_passHours_16 : decode cX9_passHours 16 = .ok (.aload_n 0, 1) := by decide +kernel
theorem dX9_passHours_17 : decode cX9_passHours 17 = .ok (.aload_n 1, 1) := by decide +kernel
theorem dX9_passHours_18 : decode cX9_passHours 18 = .ok (.bipush 9, 2) := by decide +kernel
theorem dX9_passHours_20 : decode cX9_passHours 20 = .ok (.iconst 0, 1) := by decide +kernel
theorem dX9_passHours_21 : decode cX9_passHours 21 = .ok (.iload_n 3, 1) := by decide +kernel
theorem dX9_passHours_22 : decode cX9_passHours 22 = .ok (.invokevirtual 90, 3) := by decide +kernel
theorem dX9_passHours_25 : decode cX9_passHours 25 = .ok (.goto 34, 3) := by decide +kernel
theorem dX9_passHours_28 : decode cX9_passHours 28 = .ok (.aload_n 0, 1) := by decide +kernel
theorem dX9_passHours_29 : decode cX9_passHours 29 = .ok (.getfield 39, 3) := by decide +kernel
theorem dX9_passHours_32 : decode cX9_passHours 32 = .ok (.aload_n 1, 1) := by decide +kernel
theorem dX9_passHours_33 : decode cX9_passHours 33 = .ok (.getfield 87, 3) := by decide +kernel
theorem dX9_passHours_36 : decode cX9_passHours 36 = .ok (.irem, 1) := by decide +kernel
theorem dX9_passHours_37 : decode cX9_passHours 37 = .ok (.istore 5, 2) := by decide +kernel
theorem dX9_passHours_39 : decode cX9_passHours 39 = .ok (.aload_n 0, 1) := by decide +kernel
theorem dX9_passHours_40 : decode cX9_passHours 40 = .ok (.aload_n 1, 1) := by decide +kernel
theorem dX9_passHours_41 : decode cX9_passHours 41 = .ok (.aload_n 1, 1) := by decide +kernel
theorem dX9_passHours_42 : decode cX9_passHours 42 = .ok (.getfield 94, 3) := by decide +kernel
theorem dX9_passHours_45 : decode cX9_passHours 45 = .ok (.iload 5, 2) := by decide +kernel
theorem dX9_passHours_47 : decode cX9_passHours 47 = .ok (.iaload, 1) := by decide +kernel
theorem dX9_passHours_48 : decode cX9_passHours 48 = .ok (.aload_n 1, 1) := by decide +kernel
theorem dX9_passHours_49 : decode cX9_passHours 49 = .ok (.getfield 97, 3) := by decide +kernel
theorem dX9_passHours_52 : decode cX9_passHours 52 = .ok (.iload 5, 2) := by decide +kernel
theorem dX9_passHours_54 : decode cX9_passHours 54 = .ok (.iaload, 1) := by decide +kernel
theorem dX9_passHours_55 : decode cX9_passHours 55 = .ok (.iload_n 3, 1) := by decide +kernel
theorem dX9_passHours_56 : decode cX9_passHours 56 = .ok (.invokevirtual 90, 3) := by decide +kernel
theorem dX9_passHours_59 : decode cX9_passHours 59 = .ok (.iinc 4 1, 3) := by decide +kernel
theorem dX9_passHours_62 : decode cX9_passHours 62 = .ok (.goto (-59), 3) := by decide +kernel
theorem dX9_passHours_65 : decode cX9_passHours 65 = .ok (.return_, 1) := by decide +kernel
set_option maxRecDepth 20000 in
theorem ggX9_blow_X5_allCells : GoodIn wsX9_blow wsX5_allCells := goodIn_r _ [18, 19, 26, 27, 28, 29, 30, 31, 32, 33, 34, 35, 36, 37, 38] (by decide +kernel) (by decide +kernel)
set_option maxRecDepth 20000 in
theorem gX9_blow_X5_allCells : GoodIn wsX9_blow (wsV RX9 107 RX5 yX5_allCells wsX5_allCells) := goodIn_app (goodIn_of _ (by decide +kernel)) ggX9_blow_X5_allCells
set_option maxRecDepth 20000 in
theorem ggX9_blow_X9_fencedCells : GoodIn wsX9_blow wsX9_fencedCells := goodIn_r _ [24, 6, 25, 39, 40, 41, 42, 43, 44, 45, 46] (by decide +kernel) (by decide +kernel)
set_option maxRecDepth 20000 in
theorem gX9_blow_X9_fencedCells : GoodIn wsX9_blow (wsV RX9 110 RX9 yX9_fencedCells wsX9_fencedCells) := goodIn_app (goodIn_of _ (by decide +kernel)) ggX9_blow_X9_fencedCells
theorem dX9_blow_0 : decode cX9_blow 0 = .ok (.iload_n 2, 1) := by decide +kernel
theorem dX9_blow_1 : decode cX9_blow 1 = .ok (.bipush 9, 2) := by decide +kernel
theorem dX9_blow_3 : decode cX9_blow 3 = .ok (.isub, 1) := by decide +kernel
theorem dX9_blow_4 : decode cX9_blow 4 = .ok (.istore 5, 2) := by decide +kernel
theorem dX9_blow_6 : decode cX9_blow 6 = .ok (.iload 5, 2) := by decide +kernel
theorem dX9_blow_8 : decode cX9_blow 8 = .ok (.invokestatic 100, 3) := by decide +kernel
theorem dX9_blow_11 : decode cX9_blow 11 = .ok (.aload_n 1, 1) := by decide +kernel
theorem dX9_blow_12 : decode cX9_blow 12 = .ok (.getfield 104, 3) := by decide +kernel
theorem dX9_blow_15 : decode cX9_blow 15 = .ok (.if_icmp .le 14, 3) := by decide +kernel
theorem dX9_blow_18 : decode cX9_blow 18 = .ok (.aload_n 0, 1) := by decide +kernel
theorem dX9_blow_19 : decode cX9_blow 19 = .ok (.dup, 1) := by decide +kernel
theorem dX9_blow_20 : decode cX9_blow 20 = .ok (.getfield 35, 3) := by decide +kernel
theorem dX9_blow_23 : decode cX9_blow 23 = .ok (.iload 4, 2) := by decide +kernel
theorem dX9_blow_25 : decode cX9_blow 25 = .ok (.iand, 1) := by decide +kernel
theorem dX9_blow_26 : decode cX9_blow 26 = .ok (.putfield 35, 3) := by decide +kernel
theorem dX9_blow_29 : decode cX9_blow 29 = .ok (.iload 5, 2) := by decide +kernel
theorem dX9_blow_31 : decode cX9_blow 31 = .ok (.ifCond .ne 10, 3) := by decide +kernel
theorem dX9_blow_34 : decode cX9_blow 34 = .ok (.aload_n 1, 1) := by decide +kernel
theorem dX9_blow_35 : decode cX9_blow 35 = .ok (.invokevirtual 107, 3) := by decide +kernel
theorem dX9_blow_38 : decode cX9_blow 38 = .ok (.goto 11, 3) := by decide +kernel
theorem dX9_blow_41 : decode cX9_blow 41 = .ok (.aload_n 0, 1) := by decide +kernel
theorem dX9_blow_42 : decode cX9_blow 42 = .ok (.aload_n 1, 1) := by decide +kernel
theorem dX9_blow_43 : decode cX9_blow 43 = .ok (.getfield 67, 3) := by decide +kernel
theorem dX9_blow_46 : decode cX9_blow 46 = .ok (.invokevirtual 110, 3) := by decide +kernel
theorem dX9_blow_49 : decode cX9_blow 49 = .ok (.istore 6, 2) := by decide +kernel
theorem dX9_blow_51 : decode cX9_blow 51 = .ok (.iconst 0, 1) := by decide +kernel
theorem dX9_blow_52 : decode cX9_blow 52 = .ok (.istore 7, 2) := by decide +kernel
theorem dX9_blow_54 : decode cX9_blow 54 = .ok (.iconst 0, 1) := by decide +kernel
theorem dX9_blow_55 : decode cX9_blow 55 = .ok (.istore 8, 2) := by decide +kernel
theorem dX9_blow_57 : decode cX9_blow 57 = .ok (.iload 8, 2) := by decide +kernel
theorem dX9_blow_59 : decode cX9_blow 59 = .ok (.aload_n 1, 1) := by decide +kernel
theorem dX9_blow_60 : decode cX9_blow 60 = .ok (.getfield 64, 3) := by decide +kernel
theorem dX9_blow_63 : decode cX9_blow 63 = .ok (.if_icmp .ge 87, 3) := by decide +kernel
theorem dX9_blow_66 : decode cX9_blow 66 = .ok (.iload 5, 2) := by decide +kernel
theorem dX9_blow_68 : decode cX9_blow 68 = .ok (.ifCond .ge 15, 3) := by decide +kernel
theorem dX9_blow_71 : decode cX9_blow 71 = .ok (.aload_n 1, 1) := by decide +kernel
theorem dX9_blow_72 : decode cX9_blow 72 = .ok (.getfield 64, 3) := by decide +kernel
theorem dX9_blow_75 : decode cX9_blow 75 = .ok (.iconst 1, 1) := by decide +kernel
theorem dX9_blow_76 : decode cX9_blow 76 = .ok (.isub, 1) := by decide +kernel
theorem dX9_blow_77 : decode cX9_blow 77 = .ok (.iload 8, 2) := by decide +kernel
theorem dX9_blow_79 : decode cX9_blow 79 = .ok (.isub, 1) := by decide +kernel
theorem dX9_blow_80 : decode cX9_blow 80 = .ok (.goto 5, 3) := by decide +kernel
theorem dX9_blow_83 : decode cX9_blow 83 = .ok (.iload 8, 2) := by decide +kernel
theorem dX9_blow_85 : decode cX9_blow 85 = .ok (.istore 9, 2) := by decide +kernel
theorem dX9_blow_87 : decode cX9_blow 87 = .ok (.iload_n 3, 1) := by decide +kernel
theorem dX9_blow_88 : decode cX9_blow 88 = .ok (.iload 7, 2) := by decide +kernel
theorem dX9_blow_90 : decode cX9_blow 90 = .ok (.iadd, 1) := by decide +kernel
theorem dX9_blow_91 : decode cX9_blow 91 = .ok (.istore 10, 2) := by decide +kernel
theorem dX9_blow_93 : decode cX9_blow 93 = .ok (.iload 6, 2) := by decide +kernel
theorem dX9_blow_95 : decode cX9_blow 95 = .ok (.iload 9, 2) := by decide +kernel
theorem dX9_blow_97 : decode cX9_blow 97 = .ok (.ishr, 1) := by decide +kernel
theorem dX9_blow_98 : decode cX9_blow 98 = .ok (.iconst 1, 1) := by decide +kernel
theorem dX9_blow_99 : decode cX9_blow 99 = .ok (.iand, 1) := by decide +kernel
theorem dX9_blow_100 : decode cX9_blow 100 = .ok (.ifCond .eq 8, 3) := by decide +kernel
theorem dX9_blow_103 : decode cX9_blow 103 = .ok (.iload 10, 2) := by decide +kernel
theorem dX9_blow_105 : decode cX9_blow 105 = .ok (.goto 7, 3) := by decide +kernel
theorem dX9_blow_108 : decode cX9_blow 108 = .ok (.iload 10, 2) := by decide +kernel
theorem dX9_blow_110 : decode cX9_blow 110 = .ok (.iconst 2, 1) := by decide +kernel
theorem dX9_blow_111 : decode cX9_blow 111 = .ok (.idiv, 1) := by decide +kernel
theorem dX9_blow_112 : decode cX9_blow 112 = .ok (.istore 11, 2) := by decide +kernel
theorem dX9_blow_114 : decode cX9_blow 114 = .ok (.aload_n 0, 1) := by decide +kernel
theorem dX9_blow_115 : decode cX9_blow 115 = .ok (.getfield 9, 3) := by decide +kernel
theorem dX9_blow_118 : decode cX9_blow 118 = .ok (.iload 9, 2) := by decide +kernel
theorem dX9_blow_120 : decode cX9_blow 120 = .ok (.sipush 9999, 3) := by decide +kernel
theorem dX9_blow_123 : decode cX9_blow 123 = .ok (.aload_n 0, 1) := by decide +kernel
theorem dX9_blow_124 : decode cX9_blow 124 = .ok (.getfield 9, 3) := by decide +kernel
theorem dX9_blow_127 : decode cX9_blow 127 = .ok (.iload 9, 2) := by decide +kernel
theorem dX9_blow_129 : decode cX9_blow 129 = .ok (.iaload, 1) := by decide +kernel
theorem dX9_blow_130 : decode cX9_blow 130 = .ok (.iload 11, 2) := by decide +kernel
theorem dX9_blow_132 : decode cX9_blow 132 = .ok (.iadd, 1) := by decide +kernel
theorem dX9_blow_133 : decode cX9_blow 133 = .ok (.invokestatic 58, 3) := by decide +kernel
theorem dX9_blow_136 : decode cX9_blow 136 = .ok (.iastore, 1) := by decide +kernel
theorem dX9_blow_137 : decode cX9_blow 137 = .ok (.iload 10, 2) := by decide +kernel
theorem dX9_blow_139 : decode cX9_blow 139 = .ok (.iload 11, 2) := by decide +kernel
theorem dX9_blow_141 : decode cX9_blow 141 = .ok (.isub, 1) := by decide +kernel
theorem dX9_blow_142 : decode cX9_blow 142 = .ok (.istore 7, 2) := by decide +kernel
theorem dX9_blow_144 : decode cX9_blow 144 = .ok (.iinc 8 1, 3) := by decide +kernel
theorem dX9_blow_147 : decode cX9_blow 147 = .ok (.goto (-90), 3) := by decide +kernel
theorem dX9_blow_150 : decode cX9_blow 150 = .ok (.aload_n 0, 1) := by decide +kernel
theorem dX9_blow_151 : decode cX9_blow 151 = .ok (.dup, 1) := by decide +kernel
theorem dX9_blow_152 : decode cX9_blow 152 = .ok (.getfield 39, 3) := by decide +kernel
theorem dX9_blow_155 : decode cX9_blow 155 = .ok (.iconst 1, 1) := by decide +kernel
theorem dX9_blow_156 : decode cX9_blow 156 = .ok (.iadd, 1) := by decide +kernel
theorem dX9_blow_157 : decode cX9_blow 157 = .ok (.putfield 39, 3) := by decide +kernel
theorem dX9_blow_160 : decode cX9_blow 160 = .ok (.return_, 1) := by decide +kernel
theorem dX9_fencedCells_0 : decode cX9_fencedCells 0 = .ok (.iconst 0, 1) := by decide +kernel
theorem dX9_fencedCells_1 : decode cX9_fencedCells 1 = .ok (.istore_n 2, 1) := by decide +kernel
theorem dX9_fencedCells_2 : decode cX9_fencedCells 2 = .ok (.iconst 0, 1) := by decide +kernel
theorem dX9_fencedCells_3 : decode cX9_fencedCells 3 = .ok (.istore_n 3, 1) := by decide +kernel
theorem dX9_fencedCells_4 : decode cX9_fencedCells 4 = .ok (.iload_n 3, 1) := by decide +kernel
theorem dX9_fencedCells_5 : decode cX9_fencedCells 5 = .ok (.iload_n 1, 1) := by decide +kernel
theorem dX9_fencedCells_6 : decode cX9_fencedCells 6 = .ok (.if_icmp .ge 31, 3) := by decide +kernel
theorem dX9_fencedCells_9 : decode cX9_fencedCells 9 = .ok (.aload_n 0, 1) := by decide +kernel
theorem dX9_fencedCells_10 : decode cX9_fencedCells 10 = .ok (.getfield 35, 3) := by decide +kernel
theorem dX9_fencedCells_13 : decode cX9_fencedCells 13 = .ok (.iload_n 3, 1) := by decide +kernel
theorem dX9_fencedCells_14 : decode cX9_fencedCells 14 = .ok (.ishr, 1) := by decide +kernel
theorem dX9_fencedCells_15 : decode cX9_fencedCells 15 = .ok (.iconst 1, 1) := by decide +kernel
theorem dX9_fencedCells_16 : decode cX9_fencedCells 16 = .ok (.iand, 1) := by decide +kernel
theorem dX9_fencedCells_17 : decode cX9_fencedCells 17 = .ok (.ifCond .eq 14, 3) := by decide +kernel
theorem dX9_fencedCells_20 : decode cX9_fencedCells 20 = .ok (.iload_n 2, 1) := by decide +kernel
theorem dX9_fencedCells_21 : decode cX9_fencedCells 21 = .ok (.iconst 1, 1) := by decide +kernel
theorem dX9_fencedCells_22 : decode cX9_fencedCells 22 = .ok (.aload_n 0, 1) := by decide +kernel
theorem dX9_fencedCells_23 : decode cX9_fencedCells 23 = .ok (.getfield 15, 3) := by decide +kernel
theorem dX9_fencedCells_26 : decode cX9_fencedCells 26 = .ok (.iload_n 3, 1) := by decide +kernel
theorem dX9_fencedCells_27 : decode cX9_fencedCells 27 = .ok (.iaload, 1) := by decide +kernel
theorem dX9_fencedCells_28 : decode cX9_fencedCells 28 = .ok (.ishl, 1) := by decide +kernel
theorem dX9_fencedCells_29 : decode cX9_fencedCells 29 = .ok (.ior, 1) := by decide +kernel
theorem dX9_fencedCells_30 : decode cX9_fencedCells 30 = .ok (.istore_n 2, 1) := by decide +kernel
theorem dX9_fencedCells_31 : decode cX9_fencedCells 31 = .ok (.iinc 3 1, 3) := by decide +kernel
theorem dX9_fencedCells_34 : decode cX9_fencedCells 34 = .ok (.goto (-30), 3) := by decide +kernel
theorem dX9_fencedCells_37 : decode cX9_fencedCells 37 = .ok (.iload_n 2, 1) := by decide +kernel
theorem dX9_fencedCells_38 : decode cX9_fencedCells 38 = .ok (.ireturn, 1) := by decide +kernel
set_option maxRecDepth 20000 in
theorem ggX10_init_X7_init : GoodIn wsX10_init wsX7_init := goodIn_r _ [43, 44, 2, 3, 45, 46, 47, 122, 123, 124, 125, 126, 127] (by decide +kernel) (by decide +kernel)
set_option maxRecDepth 20000 in
theorem gX10_init_X7_init_n9 : GoodIn wsX10_init (wsX7_init) := ggX10_init_X7_init
set_option maxRecDepth 20000 in
theorem ggX10_init_X9_init : GoodIn wsX10_init wsX9_init := goodIn_r _ [49, 50, 2, 3, 45, 51, 52, 53, 54, 55, 139, 140, 141, 142, 143, 144, 145, 146] (by decide +kernel) (by decide +kernel)
set_option maxRecDepth 20000 in
theorem gX10_init_X9_init_n18 : GoodIn wsX10_init (wsX9_init) := ggX10_init_X9_init
set_option maxRecDepth 20000 in
theorem ggX10_init_X4_init : GoodIn wsX10_init wsX4_init := goodIn_r _ [58, 59, 2, 3, 60, 61, 9, 10, 48, 49, 50, 45, 51, 52, 53, 54, 55, 147, 148, 149, 139, 140, 141, 142, 143, 144, 145, 146] (by decide +kernel) (by decide +kernel)
set_option maxRecDepth 20000 in
theorem gX10_init_X4_init : GoodIn wsX10_init (wsX4_init) := ggX10_init_X4_init
set_option maxRecDepth 20000 in
theorem ggX10_init_X1_init : GoodIn wsX10_init wsX1_init := goodIn_r _ [63, 64, 2, 3] (by decide +kernel) (by decide +kernel)
set_option maxRecDepth 20000 in
theorem gX10_init_X1_init_n35 : GoodIn wsX10_init (wsX1_init) := ggX10_init_X1_init
set_option maxRecDepth 20000 in
theorem ggX10_init_X2_init : GoodIn wsX10_init wsX2_init := goodIn_r _ [66, 67, 2, 3, 68, 9, 10, 69, 48, 49, 50, 45, 51, 52, 53, 54, 55, 139, 140, 141, 142, 143, 144, 145, 146, 151, 152, 153] (by decide +kernel) (by decide +kernel)
set_option maxRecDepth 20000 in
theorem gX10_init_X2_init_n46 : GoodIn wsX10_init (wsX2_init) := ggX10_init_X2_init
set_option maxRecDepth 20000 in
theorem ggX10_init_X3_init : GoodIn wsX10_init wsX3_init := goodIn_r _ [71, 72, 2, 3, 45, 73, 74, 75, 9, 10, 76, 77, 78, 79, 80, 48, 49, 50, 51, 52, 53, 54, 55, 81, 82, 83, 84, 154, 155, 156, 157, 158, 139, 140, 141, 142, 143, 144, 145, 146, 183, 184, 185, 186, 187, 188] (by decide +kernel) (by decide +kernel)
set_option maxRecDepth 20000 in
theorem gX10_init_X3_init_n49 : GoodIn wsX10_init (wsX3_init) := ggX10_init_X3_init
set_option maxRecDepth 20000 in
theorem ggX10_init_X6_init : GoodIn wsX10_init wsX6_init := goodIn_r _ [86, 87, 2, 3, 45, 88, 89, 90, 91, 92, 78, 79, 93, 81, 82, 83, 84, 159, 160, 161, 162, 163, 164, 165, 166, 183, 184, 185, 186, 187, 188] (by decide +kernel) (by decide +kernel)
set_option maxRecDepth 20000 in
theorem gX10_init_X6_init_n56 : GoodIn wsX10_init (wsX6_init) := ggX10_init_X6_init
set_option maxRecDepth 20000 in
theorem ggX10_init_X0_init : GoodIn wsX10_init wsX0_init := goodIn_r _ [95, 96, 2, 3, 45, 97, 98, 167, 168, 169] (by decide +kernel) (by decide +kernel)
set_option maxRecDepth 20000 in
theorem gX10_init_X0_init_n63 : GoodIn wsX10_init (wsX0_init) := ggX10_init_X0_init
set_option maxRecDepth 20000 in
theorem ggX10_init_X5_init : GoodIn wsX10_init wsX5_init := goodIn_r _ [100, 101, 2, 3, 45, 102, 103, 104, 105, 106, 107, 170, 171, 172, 173, 174, 175, 176, 177, 178, 179, 180, 181, 182] (by decide +kernel) (by decide +kernel)
set_option maxRecDepth 20000 in
theorem gX10_init_X5_init_n70 : GoodIn wsX10_init (wsX5_init) := ggX10_init_X5_init
set_option maxRecDepth 20000 in
theorem ggX10_init_X9_begin : GoodIn wsX10_init wsX9_begin := goodIn_r _ [111, 51, 52, 112, 53, 54, 113, 55, 114, 115, 116, 117, 118, 119, 39, 120, 121, 139, 140, 141, 142, 143, 144, 145, 146, 170, 171, 172, 173, 174, 175, 176, 177, 178, 179, 180, 181, 182] (by decide +kernel) (by decide +kernel)
set_option maxRecDepth 20000 in
theorem gX10_init_X9_begin : GoodIn wsX10_init (wsV RX10 78 RX9 yX9_begin wsX9_begin) := goodIn_app (goodIn_of _ (by decide +kernel)) ggX10_init_X9_begin
theorem dX10_init_0 : decode cX10_init 0 = .ok (.aload_n 0, 1) := by decide +kernel
theorem dX10_init_1 : decode cX10_init 1 = .ok (.invokespecial 1, 3) := by decide +kernel
theorem dX10_init_4 : decode cX10_init 4 = .ok (.aload_n 0, 1) := by decide +kernel
theorem dX10_init_5 : decode cX10_init 5 = .ok (.new 7, 3) := by decide +kernel
theorem dX10_init_8 : decode cX10_init 8 = .ok (.dup, 1) := by decide +kernel
theorem dX10_init_9 : decode cX10_init 9 = .ok (.invokespecial 9, 3) := by decide +kernel
theorem dX10_init_12 : decode cX10_init 12 = .ok (.putfield 10, 3) := by decide +kernel
theorem dX10_init_15 : decode cX10_init 15 = .ok (.aload_n 0, 1) := by decide +kernel
theorem dX10_init_16 : decode cX10_init 16 = .ok (.new 16, 3) := by decide +kernel
theorem dX10_init_19 : decode cX10_init 19 = .ok (.dup, 1) := by decide +kernel
theorem dX10_init_20 : decode cX10_init 20 = .ok (.invokespecial 18, 3) := by decide +kernel
theorem dX10_init_23 : decode cX10_init 23 = .ok (.putfield 19, 3) := by decide +kernel
theorem dX10_init_26 : decode cX10_init 26 = .ok (.aload_n 0, 1) := by decide +kernel
theorem dX10_init_27 : decode cX10_init 27 = .ok (.new 16, 3) := by decide +kernel
theorem dX10_init_30 : decode cX10_init 30 = .ok (.dup, 1) := by decide +kernel
theorem dX10_init_31 : decode cX10_init 31 = .ok (.invokespecial 18, 3) := by decide +kernel
theorem dX10_init_34 : decode cX10_init 34 = .ok (.putfield 23, 3) := by decide +kernel
theorem dX10_init_37 : decode cX10_init 37 = .ok (.aload_n 0, 1) := by decide +kernel
theorem dX10_init_38 : decode cX10_init 38 = .ok (.new 26, 3) := by decide +kernel
theorem dX10_init_41 : decode cX10_init 41 = .ok (.dup, 1) := by decide +kernel
theorem dX10_init_42 : decode cX10_init 42 = .ok (.invokespecial 28, 3) := by decide +kernel
theorem dX10_init_45 : decode cX10_init 45 = .ok (.putfield 29, 3) := by decide +kernel
theorem dX10_init_48 : decode cX10_init 48 = .ok (.aload_n 0, 1) := by decide +kernel
theorem dX10_init_49 : decode cX10_init 49 = .ok (.new 33, 3) := by decide +kernel
theorem dX10_init_52 : decode cX10_init 52 = .ok (.dup, 1) := by decide +kernel
theorem dX10_init_53 : decode cX10_init 53 = .ok (.invokespecial 35, 3) := by decide +kernel
theorem dX10_init_56 : decode cX10_init 56 = .ok (.putfield 36, 3) := by decide +kernel
theorem dX10_init_59 : decode cX10_init 59 = .ok (.aload_n 0, 1) := by decide +kernel
theorem dX10_init_60 : decode cX10_init 60 = .ok (.iconst 2, 1) := by decide +kernel
theorem dX10_init_61 : decode cX10_init 61 = .ok (.anewarray 40, 3) := by decide +kernel
theorem dX10_init_64 : decode cX10_init 64 = .ok (.putfield 42, 3) := by decide +kernel
theorem dX10_init_67 : decode cX10_init 67 = .ok (.iconst 0, 1) := by decide +kernel
theorem dX10_init_68 : decode cX10_init 68 = .ok (.istore_n 1, 1) := by decide +kernel
theorem dX10_init_69 : decode cX10_init 69 = .ok (.iload_n 1, 1) := by decide +kernel
theorem dX10_init_70 : decode cX10_init 70 = .ok (.iconst 2, 1) := by decide +kernel
theorem dX10_init_71 : decode cX10_init 71 = .ok (.if_icmp .ge 22, 3) := by decide +kernel
theorem dX10_init_74 : decode cX10_init 74 = .ok (.aload_n 0, 1) := by decide +kernel
theorem dX10_init_75 : decode cX10_init 75 = .ok (.getfield 42, 3) := by decide +kernel
theorem dX10_init_78 : decode cX10_init 78 = .ok (.iload_n 1, 1) := by decide +kernel
theorem dX10_init_79 : decode cX10_init 79 = .ok (.new 40, 3) := by decide +kernel
theorem dX10_init_82 : decode cX10_init 82 = .ok (.dup, 1) := by decide +kernel
theorem dX10_init_83 : decode cX10_init 83 = .ok (.invokespecial 46, 3) := by decide +kernel
theorem dX10_init_86 : decode cX10_init 86 = .ok (.aastore, 1) := by decide +kernel
theorem dX10_init_87 : decode cX10_init 87 = .ok (.iinc 1 1, 3) := by decide +kernel
theorem dX10_init_90 : decode cX10_init 90 = .ok (.goto (-21), 3) := by decide +kernel
theorem dX10_init_93 : decode cX10_init 93 = .ok (.aload_n 0, 1) := by decide +kernel
theorem dX10_init_94 : decode cX10_init 94 = .ok (.new 47, 3) := by decide +kernel
theorem dX10_init_97 : decode cX10_init 97 = .ok (.dup, 1) := by decide +kernel
theorem dX10_init_98 : decode cX10_init 98 = .ok (.invokespecial 49, 3) := by decide +kernel
theorem dX10_init_101 : decode cX10_init 101 = .ok (.putfield 50, 3) := by decide +kernel
theorem dX10_init_104 : decode cX10_init 104 = .ok (.aload_n 0, 1) := by decide +kernel
theorem dX10_init_105 : decode cX10_init 105 = .ok (.new 54, 3) := by decide +kernel
theorem dX10_init_108 : decode cX10_init 108 = .ok (.dup, 1) := by decide +kernel
theorem dX10_init_109 : decode cX10_init 109 = .ok (.invokespecial 56, 3) := by decide +kernel
theorem dX10_init_112 : decode cX10_init 112 = .ok (.putfield 57, 3) := by decide +kernel
theorem dX10_init_115 : decode cX10_init 115 = .ok (.aload_n 0, 1) := by decide +kernel
theorem dX10_init_116 : decode cX10_init 116 = .ok (.new 61, 3) := by decide +kernel
theorem dX10_init_119 : decode cX10_init 119 = .ok (.dup, 1) := by decide +kernel
theorem dX10_init_120 : decode cX10_init 120 = .ok (.invokespecial 63, 3) := by decide +kernel
theorem dX10_init_123 : decode cX10_init 123 = .ok (.putfield 64, 3) := by decide +kernel
theorem dX10_init_126 : decode cX10_init 126 = .ok (.aload_n 0, 1) := by decide +kernel
theorem dX10_init_127 : decode cX10_init 127 = .ok (.new 68, 3) := by decide +kernel
theorem dX10_init_130 : decode cX10_init 130 = .ok (.dup, 1) := by decide +kernel
theorem dX10_init_131 : decode cX10_init 131 = .ok (.invokespecial 70, 3) := by decide +kernel
theorem dX10_init_134 : decode cX10_init 134 = .ok (.putfield 71, 3) := by decide +kernel
theorem dX10_init_137 : decode cX10_init 137 = .ok (.aload_n 0, 1) := by decide +kernel
theorem dX10_init_138 : decode cX10_init 138 = .ok (.new 68, 3) := by decide +kernel
theorem dX10_init_141 : decode cX10_init 141 = .ok (.dup, 1) := by decide +kernel
theorem dX10_init_142 : decode cX10_init 142 = .ok (.invokespecial 70, 3) := by decide +kernel
theorem dX10_init_145 : decode cX10_init 145 = .ok (.putfield 75, 3) := by decide +kernel
theorem dX10_init_148 : decode cX10_init 148 = .ok (.aload_n 0, 1) := by decide +kernel
theorem dX10_init_149 : decode cX10_init 149 = .ok (.getfield 19, 3) := by decide +kernel
theorem dX10_init_152 : decode cX10_init 152 = .ok (.aload_n 0, 1) := by decide +kernel
theorem dX10_init_153 : decode cX10_init 153 = .ok (.getfield 71, 3) := by decide +kernel
theorem dX10_init_156 : decode cX10_init 156 = .ok (.invokevirtual 78, 3) := by decide +kernel
theorem dX10_init_159 : decode cX10_init 159 = .ok (.return_, 1) := by decide +kernel
set_option maxRecDepth 20000 in
theorem ggX10_feed_X10_within : GoodIn wsX10_feed wsX10_within := goodIn_r _ [8] (by decide +kernel) (by decide +kernel)
set_option maxRecDepth 20000 in
theorem gX10_feed_X10_within : GoodIn wsX10_feed (va_wsS RX10 82 yX10_within wsX10_within) := goodIn_app (goodIn_of _ (by decide +kernel)) ggX10_feed_X10_within
set_option maxRecDepth 20000 in
theorem ggX10_feed_X7_append : GoodIn wsX10_feed wsX7_append := goodIn_r _ [13, 14, 15, 27, 28, 29, 30, 31, 32] (by decide +kernel) (by decide +kernel)
set_option maxRecDepth 20000 in
theorem gX10_feed_X7_append : GoodIn wsX10_feed (wsV RX10 92 RX7 yX7_append wsX7_append) := goodIn_app (goodIn_of _ (by decide +kernel)) ggX10_feed_X7_append
theorem dX10_feed_0 : decode cX10_feed 0 = .ok (.iload_n 1, 1) := by decide +kernel
theorem dX10_feed_1 : decode cX10_feed 1 = .ok (.iconst 0, 1) := by decide +kernel
theorem dX10_feed_2 : decode cX10_feed 2 = .ok (.sipush 255, 3) := by decide +kernel
theorem dX10_feed_5 : decode cX10_feed 5 = .ok (.invokestatic 82, 3) := by decide +kernel
theorem dX10_feed_8 : decode cX10_feed 8 = .ok (.ifCond .ne 6, 3) := by decide +kernel
theorem dX10_feed_11 : decode cX10_feed 11 = .ok (.ldc 86, 2) := by decide +kernel
theorem dX10_feed_13 : decode cX10_feed 13 = .ok (.ireturn, 1) := by decide +kernel
theorem dX10_feed_14 : decode cX10_feed 14 = .ok (.aload_n 0, 1) := by decide +kernel
theorem dX10_feed_15 : decode cX10_feed 15 = .ok (.getfield 10, 3) := by decide +kernel
theorem dX10_feed_18 : decode cX10_feed 18 = .ok (.getfield 87, 3) := by decide +kernel
theorem dX10_feed_21 : decode cX10_feed 21 = .ok (.sipush 240, 3) := by decide +kernel
theorem dX10_feed_24 : decode cX10_feed 24 = .ok (.if_icmp .lt 6, 3) := by decide +kernel
theorem dX10_feed_27 : decode cX10_feed 27 = .ok (.ldc 91, 2) := by decide +kernel
theorem dX10_feed_29 : decode cX10_feed 29 = .ok (.ireturn, 1) := by decide +kernel
theorem dX10_feed_30 : decode cX10_feed 30 = .ok (.aload_n 0, 1) := by decide +kernel
theorem dX10_feed_31 : decode cX10_feed 31 = .ok (.getfield 10, 3) := by decide +kernel
theorem dX10_feed_34 : decode cX10_feed 34 = .ok (.iload_n 1, 1) := by decide +kernel
theorem dX10_feed_35 : decode cX10_feed 35 = .ok (.invokevirtual 92, 3) := by decide +kernel
theorem dX10_feed_38 : decode cX10_feed 38 = .ok (.aload_n 0, 1) := by decide +kernel
theorem dX10_feed_39 : decode cX10_feed 39 = .ok (.getfield 10, 3) := by decide +kernel
theorem dX10_feed_42 : decode cX10_feed 42 = .ok (.getfield 87, 3) := by decide +kernel
theorem dX10_feed_45 : decode cX10_feed 45 = .ok (.ireturn, 1) := by decide +kernel
set_option maxRecDepth 20000 in
theorem ggX10_plateau_X7_readInto : GoodIn wsX10_plateau wsX7_readInto := goodIn_r _ [18, 19, 20, 21, 22, 23, 24, 25, 26, 27, 28, 29, 30, 31, 32, 33, 34, 35, 17, 36, 37, 38, 39, 40, 41, 42, 43, 44, 45, 46, 47, 48, 49, 50, 51, 52, 53, 54, 55, 56, 57, 58, 59, 60, 61, 62, 63, 64, 65, 66, 67, 68, 69, 70, 71, 72, 73, 74, 75, 76, 77, 78, 79, 80, 81, 82, 83, 84, 85, 86, 87, 88, 89, 90, 91, 92, 93, 94, 95, 96, 97, 98, 99, 100, 101, 102, 103, 140, 141, 142, 143, 144, 145, 160, 161, 162, 163, 164, 165, 166, 167, 168, 169, 170, 171, 172] (by decide +kernel) (by decide +kernel)
set_option maxRecDepth 20000 in
theorem gX10_plateau_X7_readInto : GoodIn wsX10_plateau (wsV RX10 96 RX7 yX7_readInto wsX7_readInto) := goodIn_app (goodIn_of _ (by decide +kernel)) ggX10_plateau_X7_readInto
set_option maxRecDepth 20000 in
theorem ggX10_plateau_X9_begin : GoodIn wsX10_plateau wsX9_begin := goodIn_r _ [108, 109, 110, 111, 112, 113, 114, 115, 116, 117, 118, 119, 120, 121, 26, 122, 30, 173, 174, 175, 176, 177, 178, 179, 180, 160, 161, 162, 163, 164, 165, 166, 167, 168, 169, 170, 171, 172] (by decide +kernel) (by decide +kernel)
set_option maxRecDepth 20000 in
theorem gX10_plateau_X9_begin : GoodIn wsX10_plateau (wsV RX10 78 RX9 yX9_begin wsX9_begin) := goodIn_app (goodIn_of _ (by decide +kernel)) ggX10_plateau_X9_begin
set_option maxRecDepth 20000 in
theorem ggX10_plateau_X4_forget : GoodIn wsX10_plateau wsX4_forget := goodIn_r _ [127, 128, 181, 182, 183] (by decide +kernel) (by decide +kernel)
set_option maxRecDepth 20000 in
theorem gX10_plateau_X4_forget : GoodIn wsX10_plateau (wsV RX10 102 RX4 yX4_forget wsX4_forget) := goodIn_app (goodIn_of _ (by decide +kernel)) ggX10_plateau_X4_forget
theorem dX10_plateau_0 : decode cX10_plateau 0 = .ok (.aload_n 0, 1) := by decide +kernel
theorem dX10_plateau_1 : decode cX10_plateau 1 = .ok (.getfield 10, 3) := by decide +kernel
theorem dX10_plateau_4 : decode cX10_plateau 4 = .ok (.aload_n 0, 1) := by decide +kernel
theorem dX10_plateau_5 : decode cX10_plateau 5 = .ok (.getfield 75, 3) := by decide +kernel
theorem dX10_plateau_8 : decode cX10_plateau 8 = .ok (.invokevirtual 96, 3) := by decide +kernel
theorem dX10_plateau_11 : decode cX10_plateau 11 = .ok (.aload_n 0, 1) := by decide +kernel
theorem dX10_plateau_12 : decode cX10_plateau 12 = .ok (.getfield 10, 3) := by decide +kernel
theorem dX10_plateau_15 : decode cX10_plateau 15 = .ok (.getfield 99, 3) := by decide +kernel
theorem dX10_plateau_18 : decode cX10_plateau 18 = .ok (.ifCond .eq 14, 3) := by decide +kernel
theorem dX10_plateau_21 : decode cX10_plateau 21 = .ok (.bipush (-10), 2) := by decide +kernel
theorem dX10_plateau_23 : decode cX10_plateau 23 = .ok (.aload_n 0, 1) := by decide +kernel
theorem dX10_plateau_24 : decode cX10_plateau 24 = .ok (.getfield 10, 3) := by decide +kernel
theorem dX10_plateau_27 : decode cX10_plateau 27 = .ok (.getfield 99, 3) := by decide +kernel
theorem dX10_plateau_30 : decode cX10_plateau 30 = .ok (.isub, 1) := by decide +kernel
theorem dX10_plateau_31 : decode cX10_plateau 31 = .ok (.ireturn, 1) := by decide +kernel
theorem dX10_plateau_32 : decode cX10_plateau 32 = .ok (.aload_n 0, 1) := by decide +kernel
theorem dX10_plateau_33 : decode cX10_plateau 33 = .ok (.getfield 71, 3) := by decide +kernel
theorem dX10_plateau_36 : decode cX10_plateau 36 = .ok (.astore_n 1, 1) := by decide +kernel
theorem dX10_plateau_37 : decode cX10_plateau 37 = .ok (.aload_n 0, 1) := by decide +kernel
theorem dX10_plateau_38 : decode cX10_plateau 38 = .ok (.aload_n 0, 1) := by decide +kernel
theorem dX10_plateau_39 : decode cX10_plateau 39 = .ok (.getfield 75, 3) := by decide +kernel
theorem dX10_plateau_42 : decode cX10_plateau 42 = .ok (.putfield 71, 3) := by decide +kernel
theorem dX10_plateau_45 : decode cX10_plateau 45 = .ok (.aload_n 0, 1) := by decide +kernel
theorem dX10_plateau_46 : decode cX10_plateau 46 = .ok (.aload_n 1, 1) := by decide +kernel
theorem dX10_plateau_47 : decode cX10_plateau 47 = .ok (.putfield 75, 3) := by decide +kernel
theorem dX10_plateau_50 : decode cX10_plateau 50 = .ok (.aload_n 0, 1) := by decide +kernel
theorem dX10_plateau_51 : decode cX10_plateau 51 = .ok (.getfield 19, 3) := by decide +kernel
theorem dX10_plateau_54 : decode cX10_plateau 54 = .ok (.aload_n 0, 1) := by decide +kernel
theorem dX10_plateau_55 : decode cX10_plateau 55 = .ok (.getfield 71, 3) := by decide +kernel
theorem dX10_plateau_58 : decode cX10_plateau 58 = .ok (.invokevirtual 78, 3) := by decide +kernel
theorem dX10_plateau_61 : decode cX10_plateau 61 = .ok (.aload_n 0, 1) := by decide +kernel
theorem dX10_plateau_62 : decode cX10_plateau 62 = .ok (.getfield 29, 3) := by decide +kernel
theorem dX10_plateau_65 : decode cX10_plateau 65 = .ok (.invokevirtual 102, 3) := by decide +kernel
theorem dX10_plateau_68 : decode cX10_plateau 68 = .ok (.iconst 0, 1) := by decide +kernel
theorem dX10_plateau_69 : decode cX10_plateau 69 = .ok (.istore_n 2, 1) := by decide +kernel
theorem dX10_plateau_70 : decode cX10_plateau 70 = .ok (.iload_n 2, 1) := by decide +kernel
theorem dX10_plateau_71 : decode cX10_plateau 71 = .ok (.iconst 2, 1) := by decide +kernel
theorem dX10_plateau_72 : decode cX10_plateau 72 = .ok (.if_icmp .ge 19, 3) := by decide +kernel
theorem dX10_plateau_75 : decode cX10_plateau 75 = .ok (.aload_n 0, 1) := by decide +kernel
theorem dX10_plateau_76 : decode cX10_plateau 76 = .ok (.getfield 42, 3) := by decide +kernel
theorem dX10_plateau_79 : decode cX10_plateau 79 = .ok (.iload_n 2, 1) := by decide +kernel
theorem dX10_plateau_80 : decode cX10_plateau 80 = .ok (.aaload, 1) := by decide +kernel
theorem dX10_plateau_81 : decode cX10_plateau 81 = .ok (.iconst 0, 1) := by decide +kernel
theorem dX10_plateau_82 : decode cX10_plateau 82 = .ok (.putfield 105, 3) := by decide +kernel
theorem dX10_plateau_85 : decode cX10_plateau 85 = .ok (.iinc 2 1, 3) := by decide +kernel
theorem dX10_plateau_88 : decode cX10_plateau 88 = .ok (.goto (-18), 3) := by decide +kernel
theorem dX10_plateau_91 : decode cX10_plateau 91 = .ok (.aload_n 0, 1) := by decide +kernel
theorem dX10_plateau_92 : decode cX10_plateau 92 = .ok (.getfield 57, 3) := by decide +kernel
theorem dX10_plateau_95 : decode cX10_plateau 95 = .ok (.iconst 0, 1) := by decide +kernel
theorem dX10_plateau_96 : decode cX10_plateau 96 = .ok (.putfield 109, 3) := by decide +kernel
theorem dX10_plateau_99 : decode cX10_plateau 99 = .ok (.aload_n 0, 1) := by decide +kernel
theorem dX10_plateau_100 : decode cX10_plateau 100 = .ok (.getfield 64, 3) := by decide +kernel
theorem dX10_plateau_103 : decode cX10_plateau 103 = .ok (.iconst 0, 1) := by decide +kernel
theorem dX10_plateau_104 : decode cX10_plateau 104 = .ok (.putfield 112, 3) := by decide +kernel
theorem dX10_plateau_107 : decode cX10_plateau 107 = .ok (.aload_n 0, 1) := by decide +kernel
theorem dX10_plateau_108 : decode cX10_plateau 108 = .ok (.getfield 71, 3) := by decide +kernel
theorem dX10_plateau_111 : decode cX10_plateau 111 = .ok (.getfield 113, 3) := by decide +kernel
theorem dX10_plateau_114 : decode cX10_plateau 114 = .ok (.ireturn, 1) := by decide +kernel
theorem dX10_fault_0 : decode cX10_fault 0 = .ok (.aload_n 0, 1) := by decide +kernel
theorem dX10_fault_1 : decode cX10_fault 1 = .ok (.getfield 10, 3) := by decide +kernel
theorem dX10_fault_4 : decode cX10_fault 4 = .ok (.getfield 116, 3) := by decide +kernel
theorem dX10_fault_7 : decode cX10_fault 7 = .ok (.ireturn, 1) := by decide +kernel
set_option maxRecDepth 20000 in
theorem ggX10_told_X9_openRoad : GoodIn wsX10_told wsX9_openRoad := goodIn_r _ [24, 25, 26, 27, 28, 29, 30, 31, 32, 33, 54, 55, 56, 57, 58, 59, 60, 61, 62, 63, 64, 65, 66, 73, 74, 75, 76, 77, 78, 79, 80] (by decide +kernel) (by decide +kernel)
set_option maxRecDepth 20000 in
theorem gX10_told_X9_openRoad : GoodIn wsX10_told (wsV RX10 137 RX9 yX9_openRoad wsX9_openRoad) := goodIn_app (goodIn_of _ (by decide +kernel)) ggX10_told_X9_openRoad
set_option maxRecDepth 20000 in
theorem ggX10_told_X9_letPosts : GoodIn wsX10_told wsX9_letPosts := goodIn_r _ [37, 38, 73, 74, 75, 76, 77, 78, 79, 80] (by decide +kernel) (by decide +kernel)
set_option maxRecDepth 20000 in
theorem gX10_told_X9_letPosts : GoodIn wsX10_told (wsV RX10 144 RX9 yX9_letPosts wsX9_letPosts) := goodIn_app (goodIn_of _ (by decide +kernel)) ggX10_told_X9_letPosts
set_option maxRecDepth 20000 in
theorem ggX10_told_X9_allSnow : GoodIn wsX10_told wsX9_allSnow := goodIn_r _ [42, 26, 73, 74, 75, 76, 77, 78, 79, 80] (by decide +kernel) (by decide +kernel)
set_option maxRecDepth 20000 in
theorem gX10_told_X9_allSnow : GoodIn wsX10_told (wsV RX10 148 RX9 yX9_allSnow wsX9_allSnow) := goodIn_app (goodIn_of _ (by decide +kernel)) ggX10_told_X9_allSnow
theorem dX10_told_0 : decode cX10_told 0 = .ok (.iload_n 1, 1) := by decide +kernel
theorem dX10_told_1 : decode cX10_told 1 = .ok (.tableswitch 199 0 14 #[75, 83, 91, 99, 107, 115, 123, 131, 139, 151, 159, 167, 175, 183, 191], 75) := by decide +kernel
theorem dX10_told_76 : decode cX10_told 76 = .ok (.aload_n 0, 1) := by decide +kernel
theorem dX10_told_77 : decode cX10_told 77 = .ok (.getfield 71, 3) := by decide +kernel
theorem dX10_told_80 : decode cX10_told 80 = .ok (.getfield 113, 3) := by decide +kernel
theorem dX10_told_83 : decode cX10_told 83 = .ok (.ireturn, 1) := by decide +kernel
theorem dX10_told_84 : decode cX10_told 84 = .ok (.aload_n 0, 1) := by decide +kernel
theorem dX10_told_85 : decode cX10_told 85 = .ok (.getfield 71, 3) := by decide +kernel
theorem dX10_told_88 : decode cX10_told 88 = .ok (.getfield 119, 3) := by decide +kernel
theorem dX10_told_91 : decode cX10_told 91 = .ok (.ireturn, 1) := by decide +kernel
theorem dX10_told_92 : decode cX10_told 92 = .ok (.aload_n 0, 1) := by decide +kernel
theorem dX10_told_93 : decode cX10_told 93 = .ok (.getfield 71, 3) := by decide +kernel
theorem dX10_told_96 : decode cX10_told 96 = .ok (.getfield 122, 3) := by decide +kernel
theorem dX10_told_99 : decode cX10_told 99 = .ok (.ireturn, 1) := by decide +kernel
theorem dX10_told_100 : decode cX10_told 100 = .ok (.aload_n 0, 1) := by decide +kernel
theorem dX10_told_101 : decode cX10_told 101 = .ok (.getfield 71, 3) := by decide +kernel
theorem dX10_told_104 : decode cX10_told 104 = .ok (.getfield 125, 3) := by decide +kernel
theorem dX10_told_107 : decode cX10_told 107 = .ok (.ireturn, 1) := by decide +kernel
theorem dX10_told_108 : decode cX10_told 108 = .ok (.aload_n 0, 1) := by decide +kernel
theorem dX10_told_109 : decode cX10_told 109 = .ok (.getfield 10, 3) := by decide +kernel
theorem dX10_told_112 : decode cX10_told 112 = .ok (.getfield 87, 3) := by decide +kernel
theorem dX10_told_115 : decode cX10_told 115 = .ok (.ireturn, 1) := by decide +kernel
theorem dX10_told_116 : decode cX10_told 116 = .ok (.aload_n 0, 1) := by decide +kernel
theorem dX10_told_117 : decode cX10_told 117 = .ok (.getfield 19, 3) := by decide +kernel
theorem dX10_told_120 : decode cX10_told 120 = .ok (.getfield 128, 3) := by decide +kernel
theorem dX10_told_123 : decode cX10_told 123 = .ok (.ireturn, 1) := by decide +kernel
theorem dX10_told_124 : decode cX10_told 124 = .ok (.aload_n 0, 1) := by decide +kernel
theorem dX10_told_125 : decode cX10_told 125 = .ok (.getfield 19, 3) := by decide +kernel
theorem dX10_told_128 : decode cX10_told 128 = .ok (.getfield 131, 3) := by decide +kernel
theorem dX10_told_131 : decode cX10_told 131 = .ok (.ireturn, 1) := by decide +kernel
theorem dX10_told_132 : decode cX10_told 132 = .ok (.aload_n 0, 1) := by decide +kernel
theorem dX10_told_133 : decode cX10_told 133 = .ok (.getfield 71, 3) := by decide +kernel
theorem dX10_told_136 : decode cX10_told 136 = .ok (.getfield 134, 3) := by decide +kernel
theorem dX10_told_139 : decode cX10_told 139 = .ok (.ireturn, 1) := by decide +kernel
theorem dX10_told_140 : decode cX10_told 140 = .ok (.aload_n 0, 1) := by decide +kernel
theorem dX10_told_141 : decode cX10_told 141 = .ok (.getfield 19, 3) := by decide +kernel
theorem dX10_told_144 : decode cX10_told 144 = .ok (.aload_n 0, 1) := by decide +kernel
theorem dX10_told_145 : decode cX10_told 145 = .ok (.getfield 71, 3) := by decide +kernel
theorem dX10_told_148 : decode cX10_told 148 = .ok (.invokevirtual 137, 3) := by decide +kernel
theorem dX10_told_151 : decode cX10_told 151 = .ok (.ireturn, 1) := by decide +kernel
theorem dX10_told_152 : decode cX10_told 152 = .ok (.aload_n 0, 1) := by decide +kernel
theorem dX10_told_153 : decode cX10_told 153 = .ok (.getfield 19, 3) := by decide +kernel
theorem dX10_told_156 : decode cX10_told 156 = .ok (.getfield 141, 3) := by decide +kernel
theorem dX10_told_159 : decode cX10_told 159 = .ok (.ireturn, 1) := by decide +kernel
theorem dX10_told_160 : decode cX10_told 160 = .ok (.aload_n 0, 1) := by decide +kernel
theorem dX10_told_161 : decode cX10_told 161 = .ok (.getfield 19, 3) := by decide +kernel
theorem dX10_told_164 : decode cX10_told 164 = .ok (.invokevirtual 144, 3) := by decide +kernel
theorem dX10_told_167 : decode cX10_told 167 = .ok (.ireturn, 1) := by decide +kernel
theorem dX10_told_168 : decode cX10_told 168 = .ok (.aload_n 0, 1) := by decide +kernel
theorem dX10_told_169 : decode cX10_told 169 = .ok (.getfield 19, 3) := by decide +kernel
theorem dX10_told_172 : decode cX10_told 172 = .ok (.invokevirtual 148, 3) := by decide +kernel
theorem dX10_told_175 : decode cX10_told 175 = .ok (.ireturn, 1) := by decide +kernel
theorem dX10_told_176 : decode cX10_told 176 = .ok (.aload_n 0, 1) := by decide +kernel
theorem dX10_told_177 : decode cX10_told 177 = .ok (.getfield 57, 3) := by decide +kernel
theorem dX10_told_180 : decode cX10_told 180 = .ok (.getfield 109, 3) := by decide +kernel
theorem dX10_told_183 : decode cX10_told 183 = .ok (.ireturn, 1) := by decide +kernel
theorem dX10_told_184 : decode cX10_told 184 = .ok (.aload_n 0, 1) := by decide +kernel
theorem dX10_told_185 : decode cX10_told 185 = .ok (.getfield 64, 3) := by decide +kernel
theorem dX10_told_188 : decode cX10_told 188 = .ok (.getfield 112, 3) := by decide +kernel
theorem dX10_told_191 : decode cX10_told 191 = .ok (.ireturn, 1) := by decide +kernel
theorem dX10_told_192 : decode cX10_told 192 = .ok (.aload_n 0, 1) := by decide +kernel
theorem dX10_told_193 : decode cX10_told 193 = .ok (.getfield 29, 3) := by decide +kernel
theorem dX10_told_196 : decode cX10_told 196 = .ok (.getfield 151, 3) := by decide +kernel
theorem dX10_told_199 : decode cX10_told 199 = .ok (.ireturn, 1) := by decide +kernel
theorem dX10_told_200 : decode cX10_told 200 = .ok (.ldc 86, 2) := by decide +kernel
theorem dX10_told_202 : decode cX10_told 202 = .ok (.ireturn, 1) := by decide +kernel
set_option maxRecDepth 20000 in
theorem ggX10_snow_X10_isCell : GoodIn wsX10_snow wsX10_isCell := goodIn_r _ [8, 9, 10, 11, 12, 7, 13, 14, 15, 16, 17, 18, 19, 20, 21, 22, 23, 24, 33, 34, 35, 36, 37, 38, 39, 40, 41, 42, 43, 44, 45] (by decide +kernel) (by decide +kernel)
set_option maxRecDepth 20000 in
theorem gX10_snow_X10_isCell : GoodIn wsX10_snow (wsV RX10 152 RX10 yX10_isCell wsX10_isCell) := goodIn_app (goodIn_of _ (by decide +kernel)) ggX10_snow_X10_isCell
theorem dX10_snow_0 : decode cX10_snow 0 = .ok (.aload_n 0, 1) := by decide +kernel
theorem dX10_snow_1 : decode cX10_snow 1 = .ok (.iload_n 1, 1) := by decide +kernel
theorem dX10_snow_2 : decode cX10_snow 2 = .ok (.invokevirtual 152, 3) := by decide +kernel
theorem dX10_snow_5 : decode cX10_snow 5 = .ok (.ifCond .eq 15, 3) := by decide +kernel
theorem dX10_snow_8 : decode cX10_snow 8 = .ok (.aload_n 0, 1) := by decide +kernel
theorem dX10_snow_9 : decode cX10_snow 9 = .ok (.getfield 19, 3) := by decide +kernel
theorem dX10_snow_12 : decode cX10_snow 12 = .ok (.getfield 156, 3) := by decide +kernel
theorem dX10_snow_15 : decode cX10_snow 15 = .ok (.iload_n 1, 1) := by decide +kernel
theorem dX10_snow_16 : decode cX10_snow 16 = .ok (.iaload, 1) := by decide +kernel
theorem dX10_snow_17 : decode cX10_snow 17 = .ok (.goto 5, 3) := by decide +kernel
theorem dX10_snow_20 : decode cX10_snow 20 = .ok (.ldc 160, 2) := by decide +kernel
theorem dX10_snow_22 : decode cX10_snow 22 = .ok (.ireturn, 1) := by decide +kernel
set_option maxRecDepth 20000 in
theorem ggX10_post_X10_isPost : GoodIn wsX10_post wsX10_isPost := goodIn_r _ [13, 4, 14, 15, 16, 12, 17, 18, 19, 20, 21, 22, 23, 24, 25, 26, 27, 28, 37, 38, 39, 40, 41, 42, 43, 44, 45, 46, 47, 48, 49] (by decide +kernel) (by decide +kernel)
set_option maxRecDepth 20000 in
theorem gX10_post_X10_isPost : GoodIn wsX10_post (wsV RX10 161 RX10 yX10_isPost wsX10_isPost) := goodIn_app (goodIn_of _ (by decide +kernel)) ggX10_post_X10_isPost
theorem dX10_post_0 : decode cX10_post 0 = .ok (.aload_n 0, 1) := by decide +kernel
theorem dX10_post_1 : decode cX10_post 1 = .ok (.iload_n 1, 1) := by decide +kernel
theorem dX10_post_2 : decode cX10_post 2 = .ok (.invokevirtual 161, 3) := by decide +kernel
theorem dX10_post_5 : decode cX10_post 5 = .ok (.ifCond .ne 6, 3) := by decide +kernel
theorem dX10_post_8 : decode cX10_post 8 = .ok (.ldc 160, 2) := by decide +kernel
theorem dX10_post_10 : decode cX10_post 10 = .ok (.ireturn, 1) := by decide +kernel
theorem dX10_post_11 : decode cX10_post 11 = .ok (.iload_n 2, 1) := by decide +kernel
theorem dX10_post_12 : decode cX10_post 12 = .ok (.tableswitch 74 0 3 #[32, 42, 52, 62], 32) := by decide +kernel
theorem dX10_post_44 : decode cX10_post 44 = .ok (.aload_n 0, 1) := by decide +kernel
theorem dX10_post_45 : decode cX10_post 45 = .ok (.getfield 19, 3) := by decide +kernel
theorem dX10_post_48 : decode cX10_post 48 = .ok (.getfield 164, 3) := by decide +kernel
theorem dX10_post_51 : decode cX10_post 51 = .ok (.iload_n 1, 1) := by decide +kernel
theorem dX10_post_52 : decode cX10_post 52 = .ok (.iaload, 1) := by decide +kernel
theorem dX10_post_53 : decode cX10_post 53 = .ok (.ireturn, 1) := by decide +kernel
theorem dX10_post_54 : decode cX10_post 54 = .ok (.aload_n 0, 1) := by decide +kernel
theorem dX10_post_55 : decode cX10_post 55 = .ok (.getfield 71, 3) := by decide +kernel
theorem dX10_post_58 : decode cX10_post 58 = .ok (.getfield 167, 3) := by decide +kernel
theorem dX10_post_61 : decode cX10_post 61 = .ok (.iload_n 1, 1) := by decide +kernel
theorem dX10_post_62 : decode cX10_post 62 = .ok (.iaload, 1) := by decide +kernel
theorem dX10_post_63 : decode cX10_post 63 = .ok (.ireturn, 1) := by decide +kernel
theorem dX10_post_64 : decode cX10_post 64 = .ok (.aload_n 0, 1) := by decide +kernel
theorem dX10_post_65 : decode cX10_post 65 = .ok (.getfield 19, 3) := by decide +kernel
theorem dX10_post_68 : decode cX10_post 68 = .ok (.getfield 170, 3) := by decide +kernel
theorem dX10_post_71 : decode cX10_post 71 = .ok (.iload_n 1, 1) := by decide +kernel
theorem dX10_post_72 : decode cX10_post 72 = .ok (.iaload, 1) := by decide +kernel
theorem dX10_post_73 : decode cX10_post 73 = .ok (.ireturn, 1) := by decide +kernel
theorem dX10_post_74 : decode cX10_post 74 = .ok (.aload_n 0, 1) := by decide +kernel
theorem dX10_post_75 : decode cX10_post 75 = .ok (.getfield 19, 3) := by decide +kernel
theorem dX10_post_78 : decode cX10_post 78 = .ok (.getfield 141, 3) := by decide +kernel
theorem dX10_post_81 : decode cX10_post 81 = .ok (.iload_n 1, 1) := by decide +kernel
theorem dX10_post_82 : decode cX10_post 82 = .ok (.ishr, 1) := by decide +kernel
theorem dX10_post_83 : decode cX10_post 83 = .ok (.iconst 1, 1) := by decide +kernel
theorem dX10_post_84 : decode cX10_post 84 = .ok (.iand, 1) := by decide +kernel
theorem dX10_post_85 : decode cX10_post 85 = .ok (.ireturn, 1) := by decide +kernel
theorem dX10_post_86 : decode cX10_post 86 = .ok (.ldc 86, 2) := by decide +kernel
theorem dX10_post_88 : decode cX10_post 88 = .ok (.ireturn, 1) := by decide +kernel
set_option maxRecDepth 20000 in
theorem ggX10_crow_X10_isCrow : GoodIn wsX10_crow wsX10_isCrow := goodIn_r _ [12, 4, 13, 14, 15, 11, 16, 23, 24, 25, 26, 27, 28, 29, 30, 31, 32, 33, 42, 43, 44, 45, 46, 47, 48, 49, 50, 51, 52, 53, 54] (by decide +kernel) (by decide +kernel)
set_option maxRecDepth 20000 in
theorem gX10_crow_X10_isCrow : GoodIn wsX10_crow (wsV RX10 173 RX10 yX10_isCrow wsX10_isCrow) := goodIn_app (goodIn_of _ (by decide +kernel)) ggX10_crow_X10_isCrow
set_option maxRecDepth 20000 in
theorem ggX10_crow_X9_postOf : GoodIn wsX10_crow wsX9_postOf := goodIn_r _ [21, 22, 34, 35, 36, 37, 38, 39, 40, 41] (by decide +kernel) (by decide +kernel)
set_option maxRecDepth 20000 in
theorem gX10_crow_X9_postOf : GoodIn wsX10_crow (wsV RX10 182 RX9 yX9_postOf wsX9_postOf) := goodIn_app (goodIn_of _ (by decide +kernel)) ggX10_crow_X9_postOf
theorem dX10_crow_0 : decode cX10_crow 0 = .ok (.aload_n 0, 1) := by decide +kernel
theorem dX10_crow_1 : decode cX10_crow 1 = .ok (.iload_n 1, 1) := by decide +kernel
theorem dX10_crow_2 : decode cX10_crow 2 = .ok (.invokevirtual 173, 3) := by decide +kernel
theorem dX10_crow_5 : decode cX10_crow 5 = .ok (.ifCond .ne 6, 3) := by decide +kernel
theorem dX10_crow_8 : decode cX10_crow 8 = .ok (.ldc 160, 2) := by decide +kernel
theorem dX10_crow_10 : decode cX10_crow 10 = .ok (.ireturn, 1) := by decide +kernel
theorem dX10_crow_11 : decode cX10_crow 11 = .ok (.iload_n 2, 1) := by decide +kernel
theorem dX10_crow_12 : decode cX10_crow 12 = .ok (.tableswitch 71 0 3 #[32, 42, 52, 61], 32) := by decide +kernel
theorem dX10_crow_44 : decode cX10_crow 44 = .ok (.aload_n 0, 1) := by decide +kernel
theorem dX10_crow_45 : decode cX10_crow 45 = .ok (.getfield 19, 3) := by decide +kernel
theorem dX10_crow_48 : decode cX10_crow 48 = .ok (.getfield 176, 3) := by decide +kernel
theorem dX10_crow_51 : decode cX10_crow 51 = .ok (.iload_n 1, 1) := by decide +kernel
theorem dX10_crow_52 : decode cX10_crow 52 = .ok (.iaload, 1) := by decide +kernel
theorem dX10_crow_53 : decode cX10_crow 53 = .ok (.ireturn, 1) := by decide +kernel
theorem dX10_crow_54 : decode cX10_crow 54 = .ok (.aload_n 0, 1) := by decide +kernel
theorem dX10_crow_55 : decode cX10_crow 55 = .ok (.getfield 71, 3) := by decide +kernel
theorem dX10_crow_58 : decode cX10_crow 58 = .ok (.getfield 179, 3) := by decide +kernel
theorem dX10_crow_61 : decode cX10_crow 61 = .ok (.iload_n 1, 1) := by decide +kernel
theorem dX10_crow_62 : decode cX10_crow 62 = .ok (.iaload, 1) := by decide +kernel
theorem dX10_crow_63 : decode cX10_crow 63 = .ok (.ireturn, 1) := by decide +kernel
theorem dX10_crow_64 : decode cX10_crow 64 = .ok (.aload_n 0, 1) := by decide +kernel
theorem dX10_crow_65 : decode cX10_crow 65 = .ok (.getfield 19, 3) := by decide +kernel
theorem dX10_crow_68 : decode cX10_crow 68 = .ok (.iload_n 1, 1) := by decide +kernel
theorem dX10_crow_69 : decode cX10_crow 69 = .ok (.invokevirtual 182, 3) := by decide +kernel
theorem dX10_crow_72 : decode cX10_crow 72 = .ok (.ireturn, 1) := by decide +kernel
theorem dX10_crow_73 : decode cX10_crow 73 = .ok (.aload_n 0, 1) := by decide +kernel
theorem dX10_crow_74 : decode cX10_crow 74 = .ok (.getfield 19, 3) := by decide +kernel
theorem dX10_crow_77 : decode cX10_crow 77 = .ok (.getfield 186, 3) := by decide +kernel
theorem dX10_crow_80 : decode cX10_crow 80 = .ok (.iload_n 1, 1) := by decide +kernel
theorem dX10_crow_81 : decode cX10_crow 81 = .ok (.iaload, 1) := by decide +kernel
theorem dX10_crow_82 : decode cX10_crow 82 = .ok (.ireturn, 1) := by decide +kernel
theorem dX10_crow_83 : decode cX10_crow 83 = .ok (.ldc 86, 2) := by decide +kernel
theorem dX10_crow_85 : decode cX10_crow 85 = .ok (.ireturn, 1) := by decide +kernel
set_option maxRecDepth 20000 in
theorem ggX10_hour_X10_refusalOfHours : GoodIn wsX10_hour wsX10_refusalOfHours := goodIn_r _ [8, 9, 3, 10, 11, 2, 12, 13, 14, 15, 7, 16, 82, 83, 84, 85, 86, 87, 88, 89, 90, 91, 92, 93, 94, 95, 96, 97, 98, 99, 100, 101, 102, 103, 104, 105, 106, 107, 108, 109, 110, 111, 112, 113] (by decide +kernel) (by decide +kernel)
set_option maxRecDepth 20000 in
theorem gX10_hour_X10_refusalOfHours : GoodIn wsX10_hour (wsV RX10 189 RX10 yX10_refusalOfHours wsX10_refusalOfHours) := goodIn_app (goodIn_of _ (by decide +kernel)) ggX10_hour_X10_refusalOfHours
set_option maxRecDepth 20000 in
theorem ggX10_hour_X4_note : GoodIn wsX10_hour wsX4_note := goodIn_r _ [21, 22, 23, 24, 25, 26, 27, 28, 29, 30, 31, 32, 33, 34, 35, 36, 37, 38, 39, 40, 41, 42, 43, 44, 45, 114, 115, 116, 106, 107, 108, 109, 110, 111, 112, 113] (by decide +kernel) (by decide +kernel)
set_option maxRecDepth 20000 in
theorem gX10_hour_X4_note : GoodIn wsX10_hour (wsV RX10 192 RX4 yX4_note wsX4_note) := goodIn_app (goodIn_of _ (by decide +kernel)) ggX10_hour_X4_note
set_option maxRecDepth 20000 in
theorem ggX10_hour_X9_letPosts : GoodIn wsX10_hour wsX9_letPosts := goodIn_r _ [49, 40, 106, 107, 108, 109, 110, 111, 112, 113] (by decide +kernel) (by decide +kernel)
set_option maxRecDepth 20000 in
theorem gX10_hour_X9_letPosts : GoodIn wsX10_hour (wsV RX10 144 RX9 yX9_letPosts wsX9_letPosts) := goodIn_app (goodIn_of _ (by decide +kernel)) ggX10_hour_X9_letPosts
set_option maxRecDepth 20000 in
theorem ggX10_hour_X9_passHours : GoodIn wsX10_hour wsX9_passHours := goodIn_r _ [53, 54, 44, 55, 56, 57, 58, 59, 32, 60, 61, 62, 27, 63, 64, 43, 65, 66, 34, 67, 26, 28, 68, 69, 70, 71, 72, 73, 74, 75, 76, 77, 39, 93, 94, 95, 96, 97, 98, 99, 100, 101, 102, 103, 104, 105, 106, 107, 108, 109, 110, 111, 112, 113] (by decide +kernel) (by decide +kernel)
set_option maxRecDepth 20000 in
theorem gX10_hour_X9_passHours : GoodIn wsX10_hour (wsV RX10 196 RX9 yX9_passHours wsX9_passHours) := goodIn_app (goodIn_of _ (by decide +kernel)) ggX10_hour_X9_passHours
set_option maxRecDepth 20000 in
theorem ggX10_hour_X9_allSnow : GoodIn wsX10_hour wsX9_allSnow := goodIn_r _ [81, 34, 106, 107, 108, 109, 110, 111, 112, 113] (by decide +kernel) (by decide +kernel)
set_option maxRecDepth 20000 in
theorem gX10_hour_X9_allSnow : GoodIn wsX10_hour (wsV RX10 148 RX9 yX9_allSnow wsX9_allSnow) := goodIn_app (goodIn_of _ (by decide +kernel)) ggX10_hour_X9_allSnow
theorem dX10_hour_0 : decode cX10_hour 0 = .ok (.aload_n 0, 1) := by decide +kernel
theorem dX10_hour_1 : decode cX10_hour 1 = .ok (.iload_n 1, 1) := by decide +kernel
theorem dX10_hour_2 : decode cX10_hour 2 = .ok (.invokevirtual 189, 3) := by decide +kernel
theorem dX10_hour_5 : decode cX10_hour 5 = .ok (.istore_n 2, 1) := by decide +kernel
theorem dX10_hour_6 : decode cX10_hour 6 = .ok (.iload_n 2, 1) := by decide +kernel
theorem dX10_hour_7 : decode cX10_hour 7 = .ok (.ifCond .eq 5, 3) := by decide +kernel
theorem dX10_hour_10 : decode cX10_hour 10 = .ok (.iload_n 2, 1) := by decide +kernel
theorem dX10_hour_11 : decode cX10_hour 11 = .ok (.ireturn, 1) := by decide +kernel
theorem dX10_hour_12 : decode cX10_hour 12 = .ok (.aload_n 0, 1) := by decide +kernel
theorem dX10_hour_13 : decode cX10_hour 13 = .ok (.getfield 29, 3) := by decide +kernel
theorem dX10_hour_16 : decode cX10_hour 16 = .ok (.aload_n 0, 1) := by decide +kernel
theorem dX10_hour_17 : decode cX10_hour 17 = .ok (.getfield 19, 3) := by decide +kernel
theorem dX10_hour_20 : decode cX10_hour 20 = .ok (.invokevirtual 192, 3) := by decide +kernel
theorem dX10_hour_23 : decode cX10_hour 23 = .ok (.aload_n 0, 1) := by decide +kernel
theorem dX10_hour_24 : decode cX10_hour 24 = .ok (.getfield 19, 3) := by decide +kernel
theorem dX10_hour_27 : decode cX10_hour 27 = .ok (.aload_n 0, 1) := by decide +kernel
theorem dX10_hour_28 : decode cX10_hour 28 = .ok (.getfield 71, 3) := by decide +kernel
theorem dX10_hour_31 : decode cX10_hour 31 = .ok (.iload_n 1, 1) := by decide +kernel
theorem dX10_hour_32 : decode cX10_hour 32 = .ok (.aload_n 0, 1) := by decide +kernel
theorem dX10_hour_33 : decode cX10_hour 33 = .ok (.getfield 19, 3) := by decide +kernel
theorem dX10_hour_36 : decode cX10_hour 36 = .ok (.invokevirtual 144, 3) := by decide +kernel
theorem dX10_hour_39 : decode cX10_hour 39 = .ok (.invokevirtual 196, 3) := by decide +kernel
theorem dX10_hour_42 : decode cX10_hour 42 = .ok (.aload_n 0, 1) := by decide +kernel
theorem dX10_hour_43 : decode cX10_hour 43 = .ok (.getfield 19, 3) := by decide +kernel
theorem dX10_hour_46 : decode cX10_hour 46 = .ok (.invokevirtual 148, 3) := by decide +kernel
theorem dX10_hour_49 : decode cX10_hour 49 = .ok (.ireturn, 1) := by decide +kernel
set_option maxRecDepth 20000 in
theorem ggX10_let_X10_isPost : GoodIn wsX10_let wsX10_isPost := goodIn_r _ [11, 6, 12, 13, 14, 10, 15, 66, 67, 68, 69, 70, 71, 72, 73, 74, 75, 76, 85, 86, 87, 88, 89, 90, 91, 92, 93, 94, 95, 96, 97] (by decide +kernel) (by decide +kernel)
set_option maxRecDepth 20000 in
theorem gX10_let_X10_isPost : GoodIn wsX10_let (wsV RX10 161 RX10 yX10_isPost wsX10_isPost) := goodIn_app (goodIn_of _ (by decide +kernel)) ggX10_let_X10_isPost
set_option maxRecDepth 20000 in
theorem ggX10_let_X10_isCrow : GoodIn wsX10_let wsX10_isCrow := goodIn_r _ [19, 6, 20, 13, 14, 10, 15, 66, 67, 68, 69, 70, 71, 72, 73, 74, 75, 76, 85, 86, 87, 88, 89, 90, 91, 92, 93, 94, 95, 96, 97] (by decide +kernel) (by decide +kernel)
set_option maxRecDepth 20000 in
theorem gX10_let_X10_isCrow : GoodIn wsX10_let (wsV RX10 173 RX10 yX10_isCrow wsX10_isCrow) := goodIn_app (goodIn_of _ (by decide +kernel)) ggX10_let_X10_isCrow
set_option maxRecDepth 20000 in
theorem ggX10_let_X9_postOf : GoodIn wsX10_let wsX9_postOf := goodIn_r _ [25, 26, 77, 78, 79, 80, 81, 82, 83, 84] (by decide +kernel) (by decide +kernel)
set_option maxRecDepth 20000 in
theorem gX10_let_X9_postOf : GoodIn wsX10_let (wsV RX10 182 RX9 yX9_postOf wsX9_postOf) := goodIn_app (goodIn_of _ (by decide +kernel)) ggX10_let_X9_postOf
set_option maxRecDepth 20000 in
theorem ggX10_let_X4_note : GoodIn wsX10_let wsX4_note := goodIn_r _ [31, 32, 33, 34, 35, 36, 37, 38, 39, 40, 41, 24, 42, 43, 44, 45, 46, 47, 48, 26, 49, 50, 51, 52, 53, 98, 99, 100, 77, 78, 79, 80, 81, 82, 83, 84] (by decide +kernel) (by decide +kernel)
set_option maxRecDepth 20000 in
theorem gX10_let_X4_note : GoodIn wsX10_let (wsV RX10 192 RX4 yX4_note wsX4_note) := goodIn_app (goodIn_of _ (by decide +kernel)) ggX10_let_X4_note
set_option maxRecDepth 20000 in
theorem ggX10_let_X9_worthOf : GoodIn wsX10_let wsX9_worthOf := goodIn_r _ [57, 49, 58, 59, 77, 78, 79, 80, 81, 82, 83, 84, 85, 86, 87, 88, 89, 90, 91, 92, 93, 94, 95, 96, 97] (by decide +kernel) (by decide +kernel)
set_option maxRecDepth 20000 in
theorem gX10_let_X9_worthOf : GoodIn wsX10_let (wsV RX10 201 RX9 yX9_worthOf wsX9_worthOf) := goodIn_app (goodIn_of _ (by decide +kernel)) ggX10_let_X9_worthOf
set_option maxRecDepth 20000 in
theorem ggX10_let_X9_lease : GoodIn wsX10_let wsX9_lease := goodIn_r _ [63, 26, 51, 50, 64, 65, 36, 37, 38, 53, 77, 78, 79, 80, 81, 82, 83, 84] (by decide +kernel) (by decide +kernel)
set_option maxRecDepth 20000 in
theorem gX10_let_X9_lease : GoodIn wsX10_let (wsV RX10 205 RX9 yX9_lease wsX9_lease) := goodIn_app (goodIn_of _ (by decide +kernel)) ggX10_let_X9_lease
theorem dX10_let_0 : decode cX10_let 0 = .ok (.aload_n 0, 1) := by decide +kernel
theorem dX10_let_1 : decode cX10_let 1 = .ok (.iload_n 1, 1) := by decide +kernel
theorem dX10_let_2 : decode cX10_let 2 = .ok (.invokevirtual 161, 3) := by decide +kernel
theorem dX10_let_5 : decode cX10_let 5 = .ok (.ifCond .eq 11, 3) := by decide +kernel
theorem dX10_let_8 : decode cX10_let 8 = .ok (.aload_n 0, 1) := by decide +kernel
theorem dX10_let_9 : decode cX10_let 9 = .ok (.iload_n 2, 1) := by decide +kernel
theorem dX10_let_10 : decode cX10_let 10 = .ok (.invokevirtual 173, 3) := by decide +kernel
theorem dX10_let_13 : decode cX10_let 13 = .ok (.ifCond .ne 6, 3) := by decide +kernel
theorem dX10_let_16 : decode cX10_let 16 = .ok (.ldc 160, 2) := by decide +kernel
theorem dX10_let_18 : decode cX10_let 18 = .ok (.ireturn, 1) := by decide +kernel
theorem dX10_let_19 : decode cX10_let 19 = .ok (.aload_n 0, 1) := by decide +kernel
theorem dX10_let_20 : decode cX10_let 20 = .ok (.getfield 19, 3) := by decide +kernel
theorem dX10_let_23 : decode cX10_let 23 = .ok (.getfield 170, 3) := by decide +kernel
theorem dX10_let_26 : decode cX10_let 26 = .ok (.iload_n 1, 1) := by decide +kernel
theorem dX10_let_27 : decode cX10_let 27 = .ok (.iaload, 1) := by decide +kernel
theorem dX10_let_28 : decode cX10_let 28 = .ok (.iconst (-1), 1) := by decide +kernel
theorem dX10_let_29 : decode cX10_let 29 = .ok (.if_icmp .ne 15, 3) := by decide +kernel
theorem dX10_let_32 : decode cX10_let 32 = .ok (.aload_n 0, 1) := by decide +kernel
theorem dX10_let_33 : decode cX10_let 33 = .ok (.getfield 19, 3) := by decide +kernel
theorem dX10_let_36 : decode cX10_let 36 = .ok (.iload_n 2, 1) := by decide +kernel
theorem dX10_let_37 : decode cX10_let 37 = .ok (.invokevirtual 182, 3) := by decide +kernel
theorem dX10_let_40 : decode cX10_let 40 = .ok (.iconst (-1), 1) := by decide +kernel
theorem dX10_let_41 : decode cX10_let 41 = .ok (.if_icmp .eq 6, 3) := by decide +kernel
theorem dX10_let_44 : decode cX10_let 44 = .ok (.ldc 200, 2) := by decide +kernel
theorem dX10_let_46 : decode cX10_let 46 = .ok (.ireturn, 1) := by decide +kernel
theorem dX10_let_47 : decode cX10_let 47 = .ok (.aload_n 0, 1) := by decide +kernel
theorem dX10_let_48 : decode cX10_let 48 = .ok (.getfield 29, 3) := by decide +kernel
theorem dX10_let_51 : decode cX10_let 51 = .ok (.aload_n 0, 1) := by decide +kernel
theorem dX10_let_52 : decode cX10_let 52 = .ok (.getfield 19, 3) := by decide +kernel
theorem dX10_let_55 : decode cX10_let 55 = .ok (.invokevirtual 192, 3) := by decide +kernel
theorem dX10_let_58 : decode cX10_let 58 = .ok (.aload_n 0, 1) := by decide +kernel
theorem dX10_let_59 : decode cX10_let 59 = .ok (.getfield 19, 3) := by decide +kernel
theorem dX10_let_62 : decode cX10_let 62 = .ok (.aload_n 0, 1) := by decide +kernel
theorem dX10_let_63 : decode cX10_let 63 = .ok (.getfield 71, 3) := by decide +kernel
theorem dX10_let_66 : decode cX10_let 66 = .ok (.iload_n 1, 1) := by decide +kernel
theorem dX10_let_67 : decode cX10_let 67 = .ok (.iload_n 2, 1) := by decide +kernel
theorem dX10_let_68 : decode cX10_let 68 = .ok (.invokevirtual 201, 3) := by decide +kernel
theorem dX10_let_71 : decode cX10_let 71 = .ok (.istore_n 3, 1) := by decide +kernel
theorem dX10_let_72 : decode cX10_let 72 = .ok (.aload_n 0, 1) := by decide +kernel
theorem dX10_let_73 : decode cX10_let 73 = .ok (.getfield 19, 3) := by decide +kernel
theorem dX10_let_76 : decode cX10_let 76 = .ok (.iload_n 1, 1) := by decide +kernel
theorem dX10_let_77 : decode cX10_let 77 = .ok (.iload_n 2, 1) := by decide +kernel
theorem dX10_let_78 : decode cX10_let 78 = .ok (.iload_n 3, 1) := by decide +kernel
theorem dX10_let_79 : decode cX10_let 79 = .ok (.invokevirtual 205, 3) := by decide +kernel
theorem dX10_let_82 : decode cX10_let 82 = .ok (.iload_n 3, 1) := by decide +kernel
theorem dX10_let_83 : decode cX10_let 83 = .ok (.ireturn, 1) := by decide +kernel
set_option maxRecDepth 20000 in
theorem ggX10_giveUp_X10_isPost : GoodIn wsX10_giveUp wsX10_isPost := goodIn_r _ [10, 11, 12, 13, 14, 9, 15, 45, 46, 47, 48, 49, 50, 51, 52, 53, 54, 55, 64, 65, 66, 67, 68, 69, 70, 71, 72, 73, 74, 75, 76] (by decide +kernel) (by decide +kernel)
set_option maxRecDepth 20000 in
theorem gX10_giveUp_X10_isPost : GoodIn wsX10_giveUp (wsV RX10 161 RX10 yX10_isPost wsX10_isPost) := goodIn_app (goodIn_of _ (by decide +kernel)) ggX10_giveUp_X10_isPost
set_option maxRecDepth 20000 in
theorem ggX10_giveUp_X4_note : GoodIn wsX10_giveUp wsX4_note := goodIn_r _ [20, 21, 22, 23, 24, 25, 26, 27, 28, 29, 30, 31, 32, 33, 34, 35, 36, 37, 38, 39, 40, 41, 42, 43, 44, 77, 78, 79, 56, 57, 58, 59, 60, 61, 62, 63] (by decide +kernel) (by decide +kernel)
set_option maxRecDepth 20000 in
theorem gX10_giveUp_X4_note : GoodIn wsX10_giveUp (wsV RX10 192 RX4 yX4_note wsX4_note) := goodIn_app (goodIn_of _ (by decide +kernel)) ggX10_giveUp_X4_note
theorem dX10_giveUp_0 : decode cX10_giveUp 0 = .ok (.aload_n 0, 1) := by decide +kernel
theorem dX10_giveUp_1 : decode cX10_giveUp 1 = .ok (.iload_n 1, 1) := by decide +kernel
theorem dX10_giveUp_2 : decode cX10_giveUp 2 = .ok (.invokevirtual 161, 3) := by decide +kernel
theorem dX10_giveUp_5 : decode cX10_giveUp 5 = .ok (.ifCond .ne 6, 3) := by decide +kernel
theorem dX10_giveUp_8 : decode cX10_giveUp 8 = .ok (.ldc 160, 2) := by decide +kernel
theorem dX10_giveUp_10 : decode cX10_giveUp 10 = .ok (.ireturn, 1) := by decide +kernel
theorem dX10_giveUp_11 : decode cX10_giveUp 11 = .ok (.aload_n 0, 1) := by decide +kernel
theorem dX10_giveUp_12 : decode cX10_giveUp 12 = .ok (.getfield 19, 3) := by decide +kernel
theorem dX10_giveUp_15 : decode cX10_giveUp 15 = .ok (.getfield 170, 3) := by decide +kernel
theorem dX10_giveUp_18 : decode cX10_giveUp 18 = .ok (.iload_n 1, 1) := by decide +kernel
theorem dX10_giveUp_19 : decode cX10_giveUp 19 = .ok (.iaload, 1) := by decide +kernel
theorem dX10_giveUp_20 : decode cX10_giveUp 20 = .ok (.istore_n 2, 1) := by decide +kernel
theorem dX10_giveUp_21 : decode cX10_giveUp 21 = .ok (.iload_n 2, 1) := by decide +kernel
theorem dX10_giveUp_22 : decode cX10_giveUp 22 = .ok (.iconst (-1), 1) := by decide +kernel
theorem dX10_giveUp_23 : decode cX10_giveUp 23 = .ok (.if_icmp .ne 6, 3) := by decide +kernel
theorem dX10_giveUp_26 : decode cX10_giveUp 26 = .ok (.ldc 200, 2) := by decide +kernel
theorem dX10_giveUp_28 : decode cX10_giveUp 28 = .ok (.ireturn, 1) := by decide +kernel
theorem dX10_giveUp_29 : decode cX10_giveUp 29 = .ok (.aload_n 0, 1) := by decide +kernel
theorem dX10_giveUp_30 : decode cX10_giveUp 30 = .ok (.getfield 29, 3) := by decide +kernel
theorem dX10_giveUp_33 : decode cX10_giveUp 33 = .ok (.aload_n 0, 1) := by decide +kernel
theorem dX10_giveUp_34 : decode cX10_giveUp 34 = .ok (.getfield 19, 3) := by decide +kernel
theorem dX10_giveUp_37 : decode cX10_giveUp 37 = .ok (.invokevirtual 192, 3) := by decide +kernel
theorem dX10_giveUp_40 : decode cX10_giveUp 40 = .ok (.aload_n 0, 1) := by decide +kernel
theorem dX10_giveUp_41 : decode cX10_giveUp 41 = .ok (.getfield 19, 3) := by decide +kernel
theorem dX10_giveUp_44 : decode cX10_giveUp 44 = .ok (.getfield 170, 3) := by decide +kernel
theorem dX10_giveUp_47 : decode cX10_giveUp 47 = .ok (.iload_n 1, 1) := by decide +kernel
theorem dX10_giveUp_48 : decode cX10_giveUp 48 = .ok (.iconst (-1), 1) := by decide +kernel
theorem dX10_giveUp_49 : decode cX10_giveUp 49 = .ok (.iastore, 1) := by decide +kernel
