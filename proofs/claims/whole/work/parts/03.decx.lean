theorem dX0_init_0 : decode cX0_init 0 = .ok (.aload_n 0, 1) := by decide +kernel
theorem dX0_init_1 : decode cX0_init 1 = .ok (.invokespecial 3, 3) := by decide +kernel
theorem dX0_init_4 : decode cX0_init 4 = .ok (.aload_n 0, 1) := by decide +kernel
theorem dX0_init_5 : decode cX0_init 5 = .ok (.iconst 0, 1) := by decide +kernel
theorem dX0_init_6 : decode cX0_init 6 = .ok (.putfield 9, 3) := by decide +kernel
theorem dX0_init_9 : decode cX0_init 9 = .ok (.aload_n 0, 1) := by decide +kernel
theorem dX0_init_10 : decode cX0_init 10 = .ok (.iconst 5, 1) := by decide +kernel
theorem dX0_init_11 : decode cX0_init 11 = .ok (.newarray .int, 2) := by decide +kernel
theorem dX0_init_13 : decode cX0_init 13 = .ok (.putfield 15, 3) := by decide +kernel
theorem dX0_init_16 : decode cX0_init 16 = .ok (.aload_n 0, 1) := by decide +kernel
theorem dX0_init_17 : decode cX0_init 17 = .ok (.iconst 5, 1) := by decide +kernel
theorem dX0_init_18 : decode cX0_init 18 = .ok (.newarray .int, 2) := by decide +kernel
theorem dX0_init_20 : decode cX0_init 20 = .ok (.putfield 19, 3) := by decide +kernel
theorem dX0_init_23 : decode cX0_init 23 = .ok (.aload_n 0, 1) := by decide +kernel
theorem dX0_init_24 : decode cX0_init 24 = .ok (.iconst 5, 1) := by decide +kernel
theorem dX0_init_25 : decode cX0_init 25 = .ok (.newarray .int, 2) := by decide +kernel
theorem dX0_init_27 : decode cX0_init 27 = .ok (.putfield 22, 3) := by decide +kernel
theorem dX0_init_30 : decode cX0_init 30 = .ok (.aload_n 0, 1) := by decide +kernel
theorem dX0_init_31 : decode cX0_init 31 = .ok (.iconst 5, 1) := by decide +kernel
theorem dX0_init_32 : decode cX0_init 32 = .ok (.newarray .int, 2) := by decide +kernel
theorem dX0_init_34 : decode cX0_init 34 = .ok (.putfield 25, 3) := by decide +kernel
theorem dX0_init_37 : decode cX0_init 37 = .ok (.aload_n 0, 1) := by decide +kernel
theorem dX0_init_38 : decode cX0_init 38 = .ok (.iconst 4, 1) := by decide +kernel
theorem dX0_init_39 : decode cX0_init 39 = .ok (.newarray .int, 2) := by decide +kernel
theorem dX0_init_41 : decode cX0_init 41 = .ok (.putfield 28, 3) := by decide +kernel
theorem dX0_init_44 : decode cX0_init 44 = .ok (.return_, 1) := by decide +kernel
theorem dX0_adds_0 : decode cX0_adds 0 = .ok (.aload_n 0, 1) := by decide +kernel
theorem dX0_adds_1 : decode cX0_adds 1 = .ok (.getfield 9, 3) := by decide +kernel
theorem dX0_adds_4 : decode cX0_adds 4 = .ok (.iconst 5, 1) := by decide +kernel
theorem dX0_adds_5 : decode cX0_adds 5 = .ok (.if_icmp .lt 5, 3) := by decide +kernel
theorem dX0_adds_8 : decode cX0_adds 8 = .ok (.iconst 0, 1) := by decide +kernel
theorem dX0_adds_9 : decode cX0_adds 9 = .ok (.ireturn, 1) := by decide +kernel
theorem dX0_adds_10 : decode cX0_adds 10 = .ok (.aload_n 0, 1) := by decide +kernel
theorem dX0_adds_11 : decode cX0_adds 11 = .ok (.getfield 15, 3) := by decide +kernel
theorem dX0_adds_14 : decode cX0_adds 14 = .ok (.aload_n 0, 1) := by decide +kernel
theorem dX0_adds_15 : decode cX0_adds 15 = .ok (.getfield 9, 3) := by decide +kernel
theorem dX0_adds_18 : decode cX0_adds 18 = .ok (.iload_n 1, 1) := by decide +kernel
theorem dX0_adds_19 : decode cX0_adds 19 = .ok (.iastore, 1) := by decide +kernel
theorem dX0_adds_20 : decode cX0_adds 20 = .ok (.aload_n 0, 1) := by decide +kernel
theorem dX0_adds_21 : decode cX0_adds 21 = .ok (.getfield 19, 3) := by decide +kernel
theorem dX0_adds_24 : decode cX0_adds 24 = .ok (.aload_n 0, 1) := by decide +kernel
theorem dX0_adds_25 : decode cX0_adds 25 = .ok (.getfield 9, 3) := by decide +kernel
theorem dX0_adds_28 : decode cX0_adds 28 = .ok (.iload_n 2, 1) := by decide +kernel
theorem dX0_adds_29 : decode cX0_adds 29 = .ok (.iastore, 1) := by decide +kernel
theorem dX0_adds_30 : decode cX0_adds 30 = .ok (.aload_n 0, 1) := by decide +kernel
theorem dX0_adds_31 : decode cX0_adds 31 = .ok (.dup, 1) := by decide +kernel
theorem dX0_adds_32 : decode cX0_adds 32 = .ok (.getfield 9, 3) := by decide +kernel
theorem dX0_adds_35 : decode cX0_adds 35 = .ok (.iconst 1, 1) := by decide +kernel
theorem dX0_adds_36 : decode cX0_adds 36 = .ok (.iadd, 1) := by decide +kernel
theorem dX0_adds_37 : decode cX0_adds 37 = .ok (.putfield 9, 3) := by decide +kernel
theorem dX0_adds_40 : decode cX0_adds 40 = .ok (.iconst 1, 1) := by decide +kernel
theorem dX0_adds_41 : decode cX0_adds 41 = .ok (.ireturn, 1) := by decide +kernel
theorem dX0_keepsAsFirst_0 : decode cX0_keepsAsFirst 0 = .ok (.aload_n 0, 1) := by decide +kernel
theorem dX0_keepsAsFirst_1 : decode cX0_keepsAsFirst 1 = .ok (.getfield 22, 3) := by decide +kernel
theorem dX0_keepsAsFirst_4 : decode cX0_keepsAsFirst 4 = .ok (.iconst 0, 1) := by decide +kernel
theorem dX0_keepsAsFirst_5 : decode cX0_keepsAsFirst 5 = .ok (.aload_n 0, 1) := by decide +kernel
theorem dX0_keepsAsFirst_6 : decode cX0_keepsAsFirst 6 = .ok (.getfield 25, 3) := by decide +kernel
theorem dX0_keepsAsFirst_9 : decode cX0_keepsAsFirst 9 = .ok (.iconst 0, 1) := by decide +kernel
theorem dX0_keepsAsFirst_10 : decode cX0_keepsAsFirst 10 = .ok (.iconst 5, 1) := by decide +kernel
theorem dX0_keepsAsFirst_11 : decode cX0_keepsAsFirst 11 = .ok (.invokestatic 31, 3) := by decide +kernel
theorem dX0_keepsAsFirst_14 : decode cX0_keepsAsFirst 14 = .ok (.return_, 1) := by decide +kernel
theorem dX0_startsOrders_0 : decode cX0_startsOrders 0 = .ok (.iconst 0, 1) := by decide +kernel
theorem dX0_startsOrders_1 : decode cX0_startsOrders 1 = .ok (.istore_n 2, 1) := by decide +kernel
theorem dX0_startsOrders_2 : decode cX0_startsOrders 2 = .ok (.iconst 0, 1) := by decide +kernel
theorem dX0_startsOrders_3 : decode cX0_startsOrders 3 = .ok (.istore_n 3, 1) := by decide +kernel
theorem dX0_startsOrders_4 : decode cX0_startsOrders 4 = .ok (.iload_n 3, 1) := by decide +kernel
theorem dX0_startsOrders_5 : decode cX0_startsOrders 5 = .ok (.aload_n 0, 1) := by decide +kernel
theorem dX0_startsOrders_6 : decode cX0_startsOrders 6 = .ok (.getfield 9, 3) := by decide +kernel
theorem dX0_startsOrders_9 : decode cX0_startsOrders 9 = .ok (.if_icmp .ge 24, 3) := by decide +kernel
theorem dX0_startsOrders_12 : decode cX0_startsOrders 12 = .ok (.iload_n 3, 1) := by decide +kernel
theorem dX0_startsOrders_13 : decode cX0_startsOrders 13 = .ok (.iload_n 1, 1) := by decide +kernel
theorem dX0_startsOrders_14 : decode cX0_startsOrders 14 = .ok (.if_icmp .eq 13, 3) := by decide +kernel
theorem dX0_startsOrders_17 : decode cX0_startsOrders 17 = .ok (.aload_n 0, 1) := by decide +kernel
theorem dX0_startsOrders_18 : decode cX0_startsOrders 18 = .ok (.getfield 22, 3) := by decide +kernel
theorem dX0_startsOrders_21 : decode cX0_startsOrders 21 = .ok (.iload_n 2, 1) := by decide +kernel
theorem dX0_startsOrders_22 : decode cX0_startsOrders 22 = .ok (.iload_n 3, 1) := by decide +kernel
theorem dX0_startsOrders_23 : decode cX0_startsOrders 23 = .ok (.iastore, 1) := by decide +kernel
theorem dX0_startsOrders_24 : decode cX0_startsOrders 24 = .ok (.iinc 2 1, 3) := by decide +kernel
theorem dX0_startsOrders_27 : decode cX0_startsOrders 27 = .ok (.iinc 3 1, 3) := by decide +kernel
theorem dX0_startsOrders_30 : decode cX0_startsOrders 30 = .ok (.goto (-26), 3) := by decide +kernel
theorem dX0_startsOrders_33 : decode cX0_startsOrders 33 = .ok (.iload_n 2, 1) := by decide +kernel
theorem dX0_startsOrders_34 : decode cX0_startsOrders 34 = .ok (.ireturn, 1) := by decide +kernel
theorem dX0_goesToNextOrder_0 : decode cX0_goesToNextOrder 0 = .ok (.aload_n 0, 1) := by decide +kernel
theorem dX0_goesToNextOrder_1 : decode cX0_goesToNextOrder 1 = .ok (.iload_n 1, 1) := by decide +kernel
theorem dX0_goesToNextOrder_2 : decode cX0_goesToNextOrder 2 = .ok (.invokevirtual 37, 3) := by decide +kernel
theorem dX0_goesToNextOrder_5 : decode cX0_goesToNextOrder 5 = .ok (.istore_n 2, 1) := by decide +kernel
theorem dX0_goesToNextOrder_6 : decode cX0_goesToNextOrder 6 = .ok (.iload_n 2, 1) := by decide +kernel
theorem dX0_goesToNextOrder_7 : decode cX0_goesToNextOrder 7 = .ok (.ifCond .ge 5, 3) := by decide +kernel
theorem dX0_goesToNextOrder_10 : decode cX0_goesToNextOrder 10 = .ok (.iconst 0, 1) := by decide +kernel
theorem dX0_goesToNextOrder_11 : decode cX0_goesToNextOrder 11 = .ok (.ireturn, 1) := by decide +kernel
theorem dX0_goesToNextOrder_12 : decode cX0_goesToNextOrder 12 = .ok (.aload_n 0, 1) := by decide +kernel
theorem dX0_goesToNextOrder_13 : decode cX0_goesToNextOrder 13 = .ok (.iload_n 2, 1) := by decide +kernel
theorem dX0_goesToNextOrder_14 : decode cX0_goesToNextOrder 14 = .ok (.aload_n 0, 1) := by decide +kernel
theorem dX0_goesToNextOrder_15 : decode cX0_goesToNextOrder 15 = .ok (.iload_n 2, 1) := by decide +kernel
theorem dX0_goesToNextOrder_16 : decode cX0_goesToNextOrder 16 = .ok (.iload_n 1, 1) := by decide +kernel
theorem dX0_goesToNextOrder_17 : decode cX0_goesToNextOrder 17 = .ok (.invokevirtual 41, 3) := by decide +kernel
theorem dX0_goesToNextOrder_20 : decode cX0_goesToNextOrder 20 = .ok (.invokevirtual 45, 3) := by decide +kernel
theorem dX0_goesToNextOrder_23 : decode cX0_goesToNextOrder 23 = .ok (.iload_n 2, 1) := by decide +kernel
theorem dX0_goesToNextOrder_24 : decode cX0_goesToNextOrder 24 = .ok (.iconst 1, 1) := by decide +kernel
theorem dX0_goesToNextOrder_25 : decode cX0_goesToNextOrder 25 = .ok (.iadd, 1) := by decide +kernel
theorem dX0_goesToNextOrder_26 : decode cX0_goesToNextOrder 26 = .ok (.istore_n 3, 1) := by decide +kernel
theorem dX0_goesToNextOrder_27 : decode cX0_goesToNextOrder 27 = .ok (.iload_n 1, 1) := by decide +kernel
theorem dX0_goesToNextOrder_28 : decode cX0_goesToNextOrder 28 = .ok (.iconst 1, 1) := by decide +kernel
theorem dX0_goesToNextOrder_29 : decode cX0_goesToNextOrder 29 = .ok (.isub, 1) := by decide +kernel
theorem dX0_goesToNextOrder_30 : decode cX0_goesToNextOrder 30 = .ok (.istore 4, 2) := by decide +kernel
theorem dX0_goesToNextOrder_32 : decode cX0_goesToNextOrder 32 = .ok (.iload_n 3, 1) := by decide +kernel
theorem dX0_goesToNextOrder_33 : decode cX0_goesToNextOrder 33 = .ok (.iload 4, 2) := by decide +kernel
theorem dX0_goesToNextOrder_35 : decode cX0_goesToNextOrder 35 = .ok (.if_icmp .ge 19, 3) := by decide +kernel
theorem dX0_goesToNextOrder_38 : decode cX0_goesToNextOrder 38 = .ok (.aload_n 0, 1) := by decide +kernel
theorem dX0_goesToNextOrder_39 : decode cX0_goesToNextOrder 39 = .ok (.iload_n 3, 1) := by decide +kernel
theorem dX0_goesToNextOrder_40 : decode cX0_goesToNextOrder 40 = .ok (.iload 4, 2) := by decide +kernel
theorem dX0_goesToNextOrder_42 : decode cX0_goesToNextOrder 42 = .ok (.invokevirtual 45, 3) := by decide +kernel
theorem dX0_goesToNextOrder_45 : decode cX0_goesToNextOrder 45 = .ok (.iinc 3 1, 3) := by decide +kernel
theorem dX0_goesToNextOrder_48 : decode cX0_goesToNextOrder 48 = .ok (.iinc 4 (-1), 3) := by decide +kernel
theorem dX0_goesToNextOrder_51 : decode cX0_goesToNextOrder 51 = .ok (.goto (-19), 3) := by decide +kernel
theorem dX0_goesToNextOrder_54 : decode cX0_goesToNextOrder 54 = .ok (.iconst 1, 1) := by decide +kernel
theorem dX0_goesToNextOrder_55 : decode cX0_goesToNextOrder 55 = .ok (.ireturn, 1) := by decide +kernel
theorem dX0_lastRising_0 : decode cX0_lastRising 0 = .ok (.iload_n 1, 1) := by decide +kernel
theorem dX0_lastRising_1 : decode cX0_lastRising 1 = .ok (.iconst 2, 1) := by decide +kernel
theorem dX0_lastRising_2 : decode cX0_lastRising 2 = .ok (.isub, 1) := by decide +kernel
theorem dX0_lastRising_3 : decode cX0_lastRising 3 = .ok (.istore_n 2, 1) := by decide +kernel
theorem dX0_lastRising_4 : decode cX0_lastRising 4 = .ok (.iload_n 2, 1) := by decide +kernel
theorem dX0_lastRising_5 : decode cX0_lastRising 5 = .ok (.ifCond .lt 28, 3) := by decide +kernel
theorem dX0_lastRising_8 : decode cX0_lastRising 8 = .ok (.aload_n 0, 1) := by decide +kernel
theorem dX0_lastRising_9 : decode cX0_lastRising 9 = .ok (.getfield 22, 3) := by decide +kernel
theorem dX0_lastRising_12 : decode cX0_lastRising 12 = .ok (.iload_n 2, 1) := by decide +kernel
theorem dX0_lastRising_13 : decode cX0_lastRising 13 = .ok (.iaload, 1) := by decide +kernel
theorem dX0_lastRising_14 : decode cX0_lastRising 14 = .ok (.aload_n 0, 1) := by decide +kernel
theorem dX0_lastRising_15 : decode cX0_lastRising 15 = .ok (.getfield 22, 3) := by decide +kernel
theorem dX0_lastRising_18 : decode cX0_lastRising 18 = .ok (.iload_n 2, 1) := by decide +kernel
theorem dX0_lastRising_19 : decode cX0_lastRising 19 = .ok (.iconst 1, 1) := by decide +kernel
theorem dX0_lastRising_20 : decode cX0_lastRising 20 = .ok (.iadd, 1) := by decide +kernel
theorem dX0_lastRising_21 : decode cX0_lastRising 21 = .ok (.iaload, 1) := by decide +kernel
theorem dX0_lastRising_22 : decode cX0_lastRising 22 = .ok (.if_icmp .ge 5, 3) := by decide +kernel
theorem dX0_lastRising_25 : decode cX0_lastRising 25 = .ok (.iload_n 2, 1) := by decide +kernel
theorem dX0_lastRising_26 : decode cX0_lastRising 26 = .ok (.ireturn, 1) := by decide +kernel
theorem dX0_lastRising_27 : decode cX0_lastRising 27 = .ok (.iinc 2 (-1), 3) := by decide +kernel
theorem dX0_lastRising_30 : decode cX0_lastRising 30 = .ok (.goto (-26), 3) := by decide +kernel
theorem dX0_lastRising_33 : decode cX0_lastRising 33 = .ok (.iconst (-1), 1) := by decide +kernel
theorem dX0_lastRising_34 : decode cX0_lastRising 34 = .ok (.ireturn, 1) := by decide +kernel
theorem dX0_lastAbove_0 : decode cX0_lastAbove 0 = .ok (.iload_n 2, 1) := by decide +kernel
theorem dX0_lastAbove_1 : decode cX0_lastAbove 1 = .ok (.iconst 1, 1) := by decide +kernel
theorem dX0_lastAbove_2 : decode cX0_lastAbove 2 = .ok (.isub, 1) := by decide +kernel
theorem dX0_lastAbove_3 : decode cX0_lastAbove 3 = .ok (.istore_n 3, 1) := by decide +kernel
theorem dX0_lastAbove_4 : decode cX0_lastAbove 4 = .ok (.iload_n 3, 1) := by decide +kernel
theorem dX0_lastAbove_5 : decode cX0_lastAbove 5 = .ok (.iload_n 1, 1) := by decide +kernel
theorem dX0_lastAbove_6 : decode cX0_lastAbove 6 = .ok (.if_icmp .le 26, 3) := by decide +kernel
theorem dX0_lastAbove_9 : decode cX0_lastAbove 9 = .ok (.aload_n 0, 1) := by decide +kernel
theorem dX0_lastAbove_10 : decode cX0_lastAbove 10 = .ok (.getfield 22, 3) := by decide +kernel
theorem dX0_lastAbove_13 : decode cX0_lastAbove 13 = .ok (.iload_n 3, 1) := by decide +kernel
theorem dX0_lastAbove_14 : decode cX0_lastAbove 14 = .ok (.iaload, 1) := by decide +kernel
theorem dX0_lastAbove_15 : decode cX0_lastAbove 15 = .ok (.aload_n 0, 1) := by decide +kernel
theorem dX0_lastAbove_16 : decode cX0_lastAbove 16 = .ok (.getfield 22, 3) := by decide +kernel
theorem dX0_lastAbove_19 : decode cX0_lastAbove 19 = .ok (.iload_n 1, 1) := by decide +kernel
theorem dX0_lastAbove_20 : decode cX0_lastAbove 20 = .ok (.iaload, 1) := by decide +kernel
theorem dX0_lastAbove_21 : decode cX0_lastAbove 21 = .ok (.if_icmp .le 5, 3) := by decide +kernel
theorem dX0_lastAbove_24 : decode cX0_lastAbove 24 = .ok (.iload_n 3, 1) := by decide +kernel
theorem dX0_lastAbove_25 : decode cX0_lastAbove 25 = .ok (.ireturn, 1) := by decide +kernel
theorem dX0_lastAbove_26 : decode cX0_lastAbove 26 = .ok (.iinc 3 (-1), 3) := by decide +kernel
theorem dX0_lastAbove_29 : decode cX0_lastAbove 29 = .ok (.goto (-25), 3) := by decide +kernel
theorem dX0_lastAbove_32 : decode cX0_lastAbove 32 = .ok (.iload_n 1, 1) := by decide +kernel
theorem dX0_lastAbove_33 : decode cX0_lastAbove 33 = .ok (.ireturn, 1) := by decide +kernel
theorem dX0_swaps_0 : decode cX0_swaps 0 = .ok (.aload_n 0, 1) := by decide +kernel
theorem dX0_swaps_1 : decode cX0_swaps 1 = .ok (.getfield 22, 3) := by decide +kernel
theorem dX0_swaps_4 : decode cX0_swaps 4 = .ok (.iload_n 1, 1) := by decide +kernel
theorem dX0_swaps_5 : decode cX0_swaps 5 = .ok (.iaload, 1) := by decide +kernel
theorem dX0_swaps_6 : decode cX0_swaps 6 = .ok (.istore_n 3, 1) := by decide +kernel
theorem dX0_swaps_7 : decode cX0_swaps 7 = .ok (.aload_n 0, 1) := by decide +kernel
theorem dX0_swaps_8 : decode cX0_swaps 8 = .ok (.getfield 22, 3) := by decide +kernel
theorem dX0_swaps_11 : decode cX0_swaps 11 = .ok (.iload_n 1, 1) := by decide +kernel
theorem dX0_swaps_12 : decode cX0_swaps 12 = .ok (.aload_n 0, 1) := by decide +kernel
theorem dX0_swaps_13 : decode cX0_swaps 13 = .ok (.getfield 22, 3) := by decide +kernel
theorem dX0_swaps_16 : decode cX0_swaps 16 = .ok (.iload_n 2, 1) := by decide +kernel
theorem dX0_swaps_17 : decode cX0_swaps 17 = .ok (.iaload, 1) := by decide +kernel
theorem dX0_swaps_18 : decode cX0_swaps 18 = .ok (.iastore, 1) := by decide +kernel
theorem dX0_swaps_19 : decode cX0_swaps 19 = .ok (.aload_n 0, 1) := by decide +kernel
theorem dX0_swaps_20 : decode cX0_swaps 20 = .ok (.getfield 22, 3) := by decide +kernel
theorem dX0_swaps_23 : decode cX0_swaps 23 = .ok (.iload_n 2, 1) := by decide +kernel
theorem dX0_swaps_24 : decode cX0_swaps 24 = .ok (.iload_n 3, 1) := by decide +kernel
theorem dX0_swaps_25 : decode cX0_swaps 25 = .ok (.iastore, 1) := by decide +kernel
theorem dX0_swaps_26 : decode cX0_swaps 26 = .ok (.return_, 1) := by decide +kernel
theorem dX1_init_0 : decode cX1_init 0 = .ok (.aload_n 0, 1) := by decide +kernel
theorem dX1_init_1 : decode cX1_init 1 = .ok (.invokespecial 3, 3) := by decide +kernel
theorem dX1_init_4 : decode cX1_init 4 = .ok (.aload_n 0, 1) := by decide +kernel
theorem dX1_init_5 : decode cX1_init 5 = .ok (.iconst 0, 1) := by decide +kernel
theorem dX1_init_6 : decode cX1_init 6 = .ok (.putfield 9, 3) := by decide +kernel
theorem dX1_init_9 : decode cX1_init 9 = .ok (.aload_n 0, 1) := by decide +kernel
theorem dX1_init_10 : decode cX1_init 10 = .ok (.iconst 0, 1) := by decide +kernel
theorem dX1_init_11 : decode cX1_init 11 = .ok (.putfield 15, 3) := by decide +kernel
theorem dX1_init_14 : decode cX1_init 14 = .ok (.aload_n 0, 1) := by decide +kernel
theorem dX1_init_15 : decode cX1_init 15 = .ok (.iconst 0, 1) := by decide +kernel
theorem dX1_init_16 : decode cX1_init 16 = .ok (.putfield 18, 3) := by decide +kernel
theorem dX1_init_19 : decode cX1_init 19 = .ok (.aload_n 0, 1) := by decide +kernel
theorem dX1_init_20 : decode cX1_init 20 = .ok (.iconst 2, 1) := by decide +kernel
theorem dX1_init_21 : decode cX1_init 21 = .ok (.putfield 21, 3) := by decide +kernel
theorem dX1_init_24 : decode cX1_init 24 = .ok (.aload_n 0, 1) := by decide +kernel
theorem dX1_init_25 : decode cX1_init 25 = .ok (.iconst 4, 1) := by decide +kernel
theorem dX1_init_26 : decode cX1_init 26 = .ok (.newarray .int, 2) := by decide +kernel
theorem dX1_init_28 : decode cX1_init 28 = .ok (.putfield 24, 3) := by decide +kernel
theorem dX1_init_31 : decode cX1_init 31 = .ok (.aload_n 0, 1) := by decide +kernel
theorem dX1_init_32 : decode cX1_init 32 = .ok (.bipush 16, 2) := by decide +kernel
theorem dX1_init_34 : decode cX1_init 34 = .ok (.newarray .int, 2) := by decide +kernel
theorem dX1_init_36 : decode cX1_init 36 = .ok (.putfield 28, 3) := by decide +kernel
theorem dX1_init_39 : decode cX1_init 39 = .ok (.aload_n 0, 1) := by decide +kernel
theorem dX1_init_40 : decode cX1_init 40 = .ok (.bipush 8, 2) := by decide +kernel
theorem dX1_init_42 : decode cX1_init 42 = .ok (.newarray .int, 2) := by decide +kernel
theorem dX1_init_44 : decode cX1_init 44 = .ok (.putfield 31, 3) := by decide +kernel
theorem dX1_init_47 : decode cX1_init 47 = .ok (.return_, 1) := by decide +kernel
theorem dX1_empties_0 : decode cX1_empties 0 = .ok (.aload_n 0, 1) := by decide +kernel
theorem dX1_empties_1 : decode cX1_empties 1 = .ok (.iconst 0, 1) := by decide +kernel
theorem dX1_empties_2 : decode cX1_empties 2 = .ok (.putfield 9, 3) := by decide +kernel
theorem dX1_empties_5 : decode cX1_empties 5 = .ok (.aload_n 0, 1) := by decide +kernel
theorem dX1_empties_6 : decode cX1_empties 6 = .ok (.iconst 0, 1) := by decide +kernel
theorem dX1_empties_7 : decode cX1_empties 7 = .ok (.putfield 15, 3) := by decide +kernel
theorem dX1_empties_10 : decode cX1_empties 10 = .ok (.aload_n 0, 1) := by decide +kernel
theorem dX1_empties_11 : decode cX1_empties 11 = .ok (.iconst 0, 1) := by decide +kernel
theorem dX1_empties_12 : decode cX1_empties 12 = .ok (.putfield 18, 3) := by decide +kernel
theorem dX1_empties_15 : decode cX1_empties 15 = .ok (.aload_n 0, 1) := by decide +kernel
theorem dX1_empties_16 : decode cX1_empties 16 = .ok (.iconst 2, 1) := by decide +kernel
theorem dX1_empties_17 : decode cX1_empties 17 = .ok (.putfield 21, 3) := by decide +kernel
theorem dX1_empties_20 : decode cX1_empties 20 = .ok (.return_, 1) := by decide +kernel
theorem dX1_becomes_0 : decode cX1_becomes 0 = .ok (.aload_n 0, 1) := by decide +kernel
theorem dX1_becomes_1 : decode cX1_becomes 1 = .ok (.aload_n 1, 1) := by decide +kernel
theorem dX1_becomes_2 : decode cX1_becomes 2 = .ok (.getfield 9, 3) := by decide +kernel
theorem dX1_becomes_5 : decode cX1_becomes 5 = .ok (.putfield 9, 3) := by decide +kernel
theorem dX1_becomes_8 : decode cX1_becomes 8 = .ok (.aload_n 0, 1) := by decide +kernel
theorem dX1_becomes_9 : decode cX1_becomes 9 = .ok (.aload_n 1, 1) := by decide +kernel
theorem dX1_becomes_10 : decode cX1_becomes 10 = .ok (.getfield 15, 3) := by decide +kernel
theorem dX1_becomes_13 : decode cX1_becomes 13 = .ok (.putfield 15, 3) := by decide +kernel
theorem dX1_becomes_16 : decode cX1_becomes 16 = .ok (.aload_n 0, 1) := by decide +kernel
theorem dX1_becomes_17 : decode cX1_becomes 17 = .ok (.aload_n 1, 1) := by decide +kernel
theorem dX1_becomes_18 : decode cX1_becomes 18 = .ok (.getfield 18, 3) := by decide +kernel
theorem dX1_becomes_21 : decode cX1_becomes 21 = .ok (.putfield 18, 3) := by decide +kernel
theorem dX1_becomes_24 : decode cX1_becomes 24 = .ok (.aload_n 0, 1) := by decide +kernel
theorem dX1_becomes_25 : decode cX1_becomes 25 = .ok (.aload_n 1, 1) := by decide +kernel
theorem dX1_becomes_26 : decode cX1_becomes 26 = .ok (.getfield 21, 3) := by decide +kernel
theorem dX1_becomes_29 : decode cX1_becomes 29 = .ok (.putfield 21, 3) := by decide +kernel
theorem dX1_becomes_32 : decode cX1_becomes 32 = .ok (.aload_n 1, 1) := by decide +kernel
theorem dX1_becomes_33 : decode cX1_becomes 33 = .ok (.getfield 24, 3) := by decide +kernel
theorem dX1_becomes_36 : decode cX1_becomes 36 = .ok (.iconst 0, 1) := by decide +kernel
theorem dX1_becomes_37 : decode cX1_becomes 37 = .ok (.aload_n 0, 1) := by decide +kernel
theorem dX1_becomes_38 : decode cX1_becomes 38 = .ok (.getfield 24, 3) := by decide +kernel
theorem dX1_becomes_41 : decode cX1_becomes 41 = .ok (.iconst 0, 1) := by decide +kernel
theorem dX1_becomes_42 : decode cX1_becomes 42 = .ok (.iconst 4, 1) := by decide +kernel
theorem dX1_becomes_43 : decode cX1_becomes 43 = .ok (.invokestatic 34, 3) := by decide +kernel
theorem dX1_becomes_46 : decode cX1_becomes 46 = .ok (.aload_n 1, 1) := by decide +kernel
theorem dX1_becomes_47 : decode cX1_becomes 47 = .ok (.getfield 28, 3) := by decide +kernel
theorem dX1_becomes_50 : decode cX1_becomes 50 = .ok (.iconst 0, 1) := by decide +kernel
theorem dX1_becomes_51 : decode cX1_becomes 51 = .ok (.aload_n 0, 1) := by decide +kernel
theorem dX1_becomes_52 : decode cX1_becomes 52 = .ok (.getfield 28, 3) := by decide +kernel
theorem dX1_becomes_55 : decode cX1_becomes 55 = .ok (.iconst 0, 1) := by decide +kernel
theorem dX1_becomes_56 : decode cX1_becomes 56 = .ok (.bipush 16, 2) := by decide +kernel
theorem dX1_becomes_58 : decode cX1_becomes 58 = .ok (.invokestatic 34, 3) := by decide +kernel
theorem dX1_becomes_61 : decode cX1_becomes 61 = .ok (.aload_n 1, 1) := by decide +kernel
theorem dX1_becomes_62 : decode cX1_becomes 62 = .ok (.getfield 31, 3) := by decide +kernel
theorem dX1_becomes_65 : decode cX1_becomes 65 = .ok (.iconst 0, 1) := by decide +kernel
theorem dX1_becomes_66 : decode cX1_becomes 66 = .ok (.aload_n 0, 1) := by decide +kernel
theorem dX1_becomes_67 : decode cX1_becomes 67 = .ok (.getfield 31, 3) := by decide +kernel
theorem dX1_becomes_70 : decode cX1_becomes 70 = .ok (.iconst 0, 1) := by decide +kernel
theorem dX1_becomes_71 : decode cX1_becomes 71 = .ok (.bipush 8, 2) := by decide +kernel
theorem dX1_becomes_73 : decode cX1_becomes 73 = .ok (.invokestatic 34, 3) := by decide +kernel
theorem dX1_becomes_76 : decode cX1_becomes 76 = .ok (.return_, 1) := by decide +kernel
theorem dX1_hasScale_0 : decode cX1_hasScale 0 = .ok (.iload_n 1, 1) := by decide +kernel
theorem dX1_hasScale_1 : decode cX1_hasScale 1 = .ok (.ifCond .lt 15, 3) := by decide +kernel
theorem dX1_hasScale_4 : decode cX1_hasScale 4 = .ok (.iload_n 1, 1) := by decide +kernel
theorem dX1_hasScale_5 : decode cX1_hasScale 5 = .ok (.aload_n 0, 1) := by decide +kernel
theorem dX1_hasScale_6 : decode cX1_hasScale 6 = .ok (.getfield 9, 3) := by decide +kernel
theorem dX1_hasScale_9 : decode cX1_hasScale 9 = .ok (.if_icmp .ge 7, 3) := by decide +kernel
theorem dX1_hasScale_12 : decode cX1_hasScale 12 = .ok (.iconst 1, 1) := by decide +kernel
theorem dX1_hasScale_13 : decode cX1_hasScale 13 = .ok (.goto 4, 3) := by decide +kernel
theorem dX1_hasScale_16 : decode cX1_hasScale 16 = .ok (.iconst 0, 1) := by decide +kernel
theorem dX1_hasScale_17 : decode cX1_hasScale 17 = .ok (.ireturn, 1) := by decide +kernel
theorem dX1_hasLife_0 : decode cX1_hasLife 0 = .ok (.iload_n 1, 1) := by decide +kernel
theorem dX1_hasLife_1 : decode cX1_hasLife 1 = .ok (.ifCond .lt 15, 3) := by decide +kernel
theorem dX1_hasLife_4 : decode cX1_hasLife 4 = .ok (.iload_n 1, 1) := by decide +kernel
theorem dX1_hasLife_5 : decode cX1_hasLife 5 = .ok (.aload_n 0, 1) := by decide +kernel
theorem dX1_hasLife_6 : decode cX1_hasLife 6 = .ok (.getfield 15, 3) := by decide +kernel
theorem dX1_hasLife_9 : decode cX1_hasLife 9 = .ok (.if_icmp .ge 7, 3) := by decide +kernel
theorem dX1_hasLife_12 : decode cX1_hasLife 12 = .ok (.iconst 1, 1) := by decide +kernel
theorem dX1_hasLife_13 : decode cX1_hasLife 13 = .ok (.goto 4, 3) := by decide +kernel
theorem dX1_hasLife_16 : decode cX1_hasLife 16 = .ok (.iconst 0, 1) := by decide +kernel
theorem dX1_hasLife_17 : decode cX1_hasLife 17 = .ok (.ireturn, 1) := by decide +kernel
theorem dX1_hasPlace_0 : decode cX1_hasPlace 0 = .ok (.iload_n 1, 1) := by decide +kernel
theorem dX1_hasPlace_1 : decode cX1_hasPlace 1 = .ok (.ifCond .lt 15, 3) := by decide +kernel
theorem dX1_hasPlace_4 : decode cX1_hasPlace 4 = .ok (.iload_n 1, 1) := by decide +kernel
theorem dX1_hasPlace_5 : decode cX1_hasPlace 5 = .ok (.aload_n 0, 1) := by decide +kernel
theorem dX1_hasPlace_6 : decode cX1_hasPlace 6 = .ok (.getfield 18, 3) := by decide +kernel
theorem dX1_hasPlace_9 : decode cX1_hasPlace 9 = .ok (.if_icmp .ge 7, 3) := by decide +kernel
theorem dX1_hasPlace_12 : decode cX1_hasPlace 12 = .ok (.iconst 1, 1) := by decide +kernel
theorem dX1_hasPlace_13 : decode cX1_hasPlace 13 = .ok (.goto 4, 3) := by decide +kernel
theorem dX1_hasPlace_16 : decode cX1_hasPlace 16 = .ok (.iconst 0, 1) := by decide +kernel
theorem dX1_hasPlace_17 : decode cX1_hasPlace 17 = .ok (.ireturn, 1) := by decide +kernel
theorem dX2_init_0 : decode cX2_init 0 = .ok (.aload_n 0, 1) := by decide +kernel
theorem dX2_init_1 : decode cX2_init 1 = .ok (.invokespecial 3, 3) := by decide +kernel
theorem dX2_init_4 : decode cX2_init 4 = .ok (.aload_n 0, 1) := by decide +kernel
theorem dX2_init_5 : decode cX2_init 5 = .ok (.iconst 0, 1) := by decide +kernel
theorem dX2_init_6 : decode cX2_init 6 = .ok (.putfield 9, 3) := by decide +kernel
theorem dX2_init_9 : decode cX2_init 9 = .ok (.aload_n 0, 1) := by decide +kernel
theorem dX2_init_10 : decode cX2_init 10 = .ok (.iconst 0, 1) := by decide +kernel
theorem dX2_init_11 : decode cX2_init 11 = .ok (.putfield 15, 3) := by decide +kernel
theorem dX2_init_14 : decode cX2_init 14 = .ok (.aload_n 0, 1) := by decide +kernel
theorem dX2_init_15 : decode cX2_init 15 = .ok (.bipush 16, 2) := by decide +kernel
theorem dX2_init_17 : decode cX2_init 17 = .ok (.newarray .int, 2) := by decide +kernel
theorem dX2_init_19 : decode cX2_init 19 = .ok (.putfield 18, 3) := by decide +kernel
theorem dX2_init_22 : decode cX2_init 22 = .ok (.aload_n 0, 1) := by decide +kernel
theorem dX2_init_23 : decode cX2_init 23 = .ok (.iconst 4, 1) := by decide +kernel
theorem dX2_init_24 : decode cX2_init 24 = .ok (.newarray .int, 2) := by decide +kernel
theorem dX2_init_26 : decode cX2_init 26 = .ok (.putfield 22, 3) := by decide +kernel
theorem dX2_init_29 : decode cX2_init 29 = .ok (.aload_n 0, 1) := by decide +kernel
theorem dX2_init_30 : decode cX2_init 30 = .ok (.iconst 4, 1) := by decide +kernel
theorem dX2_init_31 : decode cX2_init 31 = .ok (.newarray .int, 2) := by decide +kernel
theorem dX2_init_33 : decode cX2_init 33 = .ok (.putfield 25, 3) := by decide +kernel
theorem dX2_init_36 : decode cX2_init 36 = .ok (.return_, 1) := by decide +kernel
theorem dX2_becomes_0 : decode cX2_becomes 0 = .ok (.aload_n 0, 1) := by decide +kernel
theorem dX2_becomes_1 : decode cX2_becomes 1 = .ok (.aload_n 1, 1) := by decide +kernel
theorem dX2_becomes_2 : decode cX2_becomes 2 = .ok (.getfield 9, 3) := by decide +kernel
theorem dX2_becomes_5 : decode cX2_becomes 5 = .ok (.putfield 9, 3) := by decide +kernel
theorem dX2_becomes_8 : decode cX2_becomes 8 = .ok (.aload_n 0, 1) := by decide +kernel
theorem dX2_becomes_9 : decode cX2_becomes 9 = .ok (.aload_n 1, 1) := by decide +kernel
theorem dX2_becomes_10 : decode cX2_becomes 10 = .ok (.getfield 15, 3) := by decide +kernel
theorem dX2_becomes_13 : decode cX2_becomes 13 = .ok (.putfield 15, 3) := by decide +kernel
theorem dX2_becomes_16 : decode cX2_becomes 16 = .ok (.aload_n 1, 1) := by decide +kernel
theorem dX2_becomes_17 : decode cX2_becomes 17 = .ok (.getfield 18, 3) := by decide +kernel
theorem dX2_becomes_20 : decode cX2_becomes 20 = .ok (.iconst 0, 1) := by decide +kernel
theorem dX2_becomes_21 : decode cX2_becomes 21 = .ok (.aload_n 0, 1) := by decide +kernel
theorem dX2_becomes_22 : decode cX2_becomes 22 = .ok (.getfield 18, 3) := by decide +kernel
theorem dX2_becomes_25 : decode cX2_becomes 25 = .ok (.iconst 0, 1) := by decide +kernel
theorem dX2_becomes_26 : decode cX2_becomes 26 = .ok (.bipush 16, 2) := by decide +kernel
theorem dX2_becomes_28 : decode cX2_becomes 28 = .ok (.invokestatic 28, 3) := by decide +kernel
theorem dX2_becomes_31 : decode cX2_becomes 31 = .ok (.aload_n 1, 1) := by decide +kernel
theorem dX2_becomes_32 : decode cX2_becomes 32 = .ok (.getfield 22, 3) := by decide +kernel
theorem dX2_becomes_35 : decode cX2_becomes 35 = .ok (.iconst 0, 1) := by decide +kernel
theorem dX2_becomes_36 : decode cX2_becomes 36 = .ok (.aload_n 0, 1) := by decide +kernel
theorem dX2_becomes_37 : decode cX2_becomes 37 = .ok (.getfield 22, 3) := by decide +kernel
theorem dX2_becomes_40 : decode cX2_becomes 40 = .ok (.iconst 0, 1) := by decide +kernel
theorem dX2_becomes_41 : decode cX2_becomes 41 = .ok (.iconst 4, 1) := by decide +kernel
theorem dX2_becomes_42 : decode cX2_becomes 42 = .ok (.invokestatic 28, 3) := by decide +kernel
theorem dX2_becomes_45 : decode cX2_becomes 45 = .ok (.aload_n 1, 1) := by decide +kernel
theorem dX2_becomes_46 : decode cX2_becomes 46 = .ok (.getfield 25, 3) := by decide +kernel
theorem dX2_becomes_49 : decode cX2_becomes 49 = .ok (.iconst 0, 1) := by decide +kernel
theorem dX2_becomes_50 : decode cX2_becomes 50 = .ok (.aload_n 0, 1) := by decide +kernel
theorem dX2_becomes_51 : decode cX2_becomes 51 = .ok (.getfield 25, 3) := by decide +kernel
theorem dX2_becomes_54 : decode cX2_becomes 54 = .ok (.iconst 0, 1) := by decide +kernel
theorem dX2_becomes_55 : decode cX2_becomes 55 = .ok (.iconst 4, 1) := by decide +kernel
theorem dX2_becomes_56 : decode cX2_becomes 56 = .ok (.invokestatic 28, 3) := by decide +kernel
theorem dX2_becomes_59 : decode cX2_becomes 59 = .ok (.return_, 1) := by decide +kernel
theorem dX3_init_0 : decode cX3_init 0 = .ok (.aload_n 0, 1) := by decide +kernel
theorem dX3_init_1 : decode cX3_init 1 = .ok (.invokespecial 3, 3) := by decide +kernel
theorem dX3_init_4 : decode cX3_init 4 = .ok (.aload_n 0, 1) := by decide +kernel
theorem dX3_init_5 : decode cX3_init 5 = .ok (.iconst 0, 1) := by decide +kernel
theorem dX3_init_6 : decode cX3_init 6 = .ok (.putfield 9, 3) := by decide +kernel
theorem dX3_init_9 : decode cX3_init 9 = .ok (.aload_n 0, 1) := by decide +kernel
theorem dX3_init_10 : decode cX3_init 10 = .ok (.iconst 0, 1) := by decide +kernel
theorem dX3_init_11 : decode cX3_init 11 = .ok (.putfield 15, 3) := by decide +kernel
theorem dX3_init_14 : decode cX3_init 14 = .ok (.aload_n 0, 1) := by decide +kernel
theorem dX3_init_15 : decode cX3_init 15 = .ok (.bipush 10, 2) := by decide +kernel
theorem dX3_init_17 : decode cX3_init 17 = .ok (.anewarray 18, 3) := by decide +kernel
theorem dX3_init_20 : decode cX3_init 20 = .ok (.putfield 20, 3) := by decide +kernel
theorem dX3_init_23 : decode cX3_init 23 = .ok (.iconst 0, 1) := by decide +kernel
theorem dX3_init_24 : decode cX3_init 24 = .ok (.istore_n 1, 1) := by decide +kernel
theorem dX3_init_25 : decode cX3_init 25 = .ok (.iload_n 1, 1) := by decide +kernel
theorem dX3_init_26 : decode cX3_init 26 = .ok (.bipush 10, 2) := by decide +kernel
theorem dX3_init_28 : decode cX3_init 28 = .ok (.if_icmp .ge 22, 3) := by decide +kernel
theorem dX3_init_31 : decode cX3_init 31 = .ok (.aload_n 0, 1) := by decide +kernel
theorem dX3_init_32 : decode cX3_init 32 = .ok (.getfield 20, 3) := by decide +kernel
theorem dX3_init_35 : decode cX3_init 35 = .ok (.iload_n 1, 1) := by decide +kernel
theorem dX3_init_36 : decode cX3_init 36 = .ok (.new 18, 3) := by decide +kernel
theorem dX3_init_39 : decode cX3_init 39 = .ok (.dup, 1) := by decide +kernel
theorem dX3_init_40 : decode cX3_init 40 = .ok (.invokespecial 24, 3) := by decide +kernel
theorem dX3_init_43 : decode cX3_init 43 = .ok (.aastore, 1) := by decide +kernel
theorem dX3_init_44 : decode cX3_init 44 = .ok (.iinc 1 1, 3) := by decide +kernel
theorem dX3_init_47 : decode cX3_init 47 = .ok (.goto (-22), 3) := by decide +kernel
theorem dX3_init_50 : decode cX3_init 50 = .ok (.return_, 1) := by decide +kernel
theorem dX3_remembers_0 : decode cX3_remembers 0 = .ok (.aload_n 0, 1) := by decide +kernel
theorem dX3_remembers_1 : decode cX3_remembers 1 = .ok (.getfield 20, 3) := by decide +kernel
theorem dX3_remembers_4 : decode cX3_remembers 4 = .ok (.aload_n 0, 1) := by decide +kernel
theorem dX3_remembers_5 : decode cX3_remembers 5 = .ok (.getfield 15, 3) := by decide +kernel
theorem dX3_remembers_8 : decode cX3_remembers 8 = .ok (.aaload, 1) := by decide +kernel
theorem dX3_remembers_9 : decode cX3_remembers 9 = .ok (.aload_n 1, 1) := by decide +kernel
theorem dX3_remembers_10 : decode cX3_remembers 10 = .ok (.invokevirtual 25, 3) := by decide +kernel
theorem dX3_remembers_13 : decode cX3_remembers 13 = .ok (.aload_n 0, 1) := by decide +kernel
theorem dX3_remembers_14 : decode cX3_remembers 14 = .ok (.aload_n 0, 1) := by decide +kernel
theorem dX3_remembers_15 : decode cX3_remembers 15 = .ok (.getfield 15, 3) := by decide +kernel
theorem dX3_remembers_18 : decode cX3_remembers 18 = .ok (.iconst 1, 1) := by decide +kernel
theorem dX3_remembers_19 : decode cX3_remembers 19 = .ok (.iadd, 1) := by decide +kernel
theorem dX3_remembers_20 : decode cX3_remembers 20 = .ok (.bipush 10, 2) := by decide +kernel
theorem dX3_remembers_22 : decode cX3_remembers 22 = .ok (.irem, 1) := by decide +kernel
theorem dX3_remembers_23 : decode cX3_remembers 23 = .ok (.putfield 15, 3) := by decide +kernel
theorem dX3_remembers_26 : decode cX3_remembers 26 = .ok (.aload_n 0, 1) := by decide +kernel
theorem dX3_remembers_27 : decode cX3_remembers 27 = .ok (.bipush 10, 2) := by decide +kernel
theorem dX3_remembers_29 : decode cX3_remembers 29 = .ok (.aload_n 0, 1) := by decide +kernel
theorem dX3_remembers_30 : decode cX3_remembers 30 = .ok (.getfield 9, 3) := by decide +kernel
theorem dX3_remembers_33 : decode cX3_remembers 33 = .ok (.iconst 1, 1) := by decide +kernel
theorem dX3_remembers_34 : decode cX3_remembers 34 = .ok (.iadd, 1) := by decide +kernel
theorem dX3_remembers_35 : decode cX3_remembers 35 = .ok (.invokestatic 29, 3) := by decide +kernel
theorem dX3_remembers_38 : decode cX3_remembers 38 = .ok (.putfield 9, 3) := by decide +kernel
theorem dX3_remembers_41 : decode cX3_remembers 41 = .ok (.return_, 1) := by decide +kernel
theorem dX3_givesBack_0 : decode cX3_givesBack 0 = .ok (.aload_n 0, 1) := by decide +kernel
theorem dX3_givesBack_1 : decode cX3_givesBack 1 = .ok (.getfield 9, 3) := by decide +kernel
theorem dX3_givesBack_4 : decode cX3_givesBack 4 = .ok (.ifCond .ne 5, 3) := by decide +kernel
theorem dX3_givesBack_7 : decode cX3_givesBack 7 = .ok (.iconst 0, 1) := by decide +kernel
theorem dX3_givesBack_8 : decode cX3_givesBack 8 = .ok (.ireturn, 1) := by decide +kernel
theorem dX3_givesBack_9 : decode cX3_givesBack 9 = .ok (.aload_n 0, 1) := by decide +kernel
theorem dX3_givesBack_10 : decode cX3_givesBack 10 = .ok (.aload_n 0, 1) := by decide +kernel
theorem dX3_givesBack_11 : decode cX3_givesBack 11 = .ok (.getfield 15, 3) := by decide +kernel
theorem dX3_givesBack_14 : decode cX3_givesBack 14 = .ok (.bipush 10, 2) := by decide +kernel
theorem dX3_givesBack_16 : decode cX3_givesBack 16 = .ok (.iadd, 1) := by decide +kernel
theorem dX3_givesBack_17 : decode cX3_givesBack 17 = .ok (.iconst 1, 1) := by decide +kernel
theorem dX3_givesBack_18 : decode cX3_givesBack 18 = .ok (.isub, 1) := by decide +kernel
theorem dX3_givesBack_19 : decode cX3_givesBack 19 = .ok (.bipush 10, 2) := by decide +kernel
theorem dX3_givesBack_21 : decode cX3_givesBack 21 = .ok (.irem, 1) := by decide +kernel
theorem dX3_givesBack_22 : decode cX3_givesBack 22 = .ok (.putfield 15, 3) := by decide +kernel
theorem dX3_givesBack_25 : decode cX3_givesBack 25 = .ok (.aload_n 0, 1) := by decide +kernel
theorem dX3_givesBack_26 : decode cX3_givesBack 26 = .ok (.dup, 1) := by decide +kernel
theorem dX3_givesBack_27 : decode cX3_givesBack 27 = .ok (.getfield 9, 3) := by decide +kernel
theorem dX3_givesBack_30 : decode cX3_givesBack 30 = .ok (.iconst 1, 1) := by decide +kernel
theorem dX3_givesBack_31 : decode cX3_givesBack 31 = .ok (.isub, 1) := by decide +kernel
theorem dX3_givesBack_32 : decode cX3_givesBack 32 = .ok (.putfield 9, 3) := by decide +kernel
theorem dX3_givesBack_35 : decode cX3_givesBack 35 = .ok (.aload_n 1, 1) := by decide +kernel
theorem dX3_givesBack_36 : decode cX3_givesBack 36 = .ok (.aload_n 0, 1) := by decide +kernel
theorem dX3_givesBack_37 : decode cX3_givesBack 37 = .ok (.getfield 20, 3) := by decide +kernel
theorem dX3_givesBack_40 : decode cX3_givesBack 40 = .ok (.aload_n 0, 1) := by decide +kernel
theorem dX3_givesBack_41 : decode cX3_givesBack 41 = .ok (.getfield 15, 3) := by decide +kernel
theorem dX3_givesBack_44 : decode cX3_givesBack 44 = .ok (.aaload, 1) := by decide +kernel
theorem dX3_givesBack_45 : decode cX3_givesBack 45 = .ok (.invokevirtual 25, 3) := by decide +kernel
theorem dX3_givesBack_48 : decode cX3_givesBack 48 = .ok (.iconst 1, 1) := by decide +kernel
theorem dX3_givesBack_49 : decode cX3_givesBack 49 = .ok (.ireturn, 1) := by decide +kernel
theorem dX4_init_0 : decode cX4_init 0 = .ok (.aload_n 0, 1) := by decide +kernel
theorem dX4_init_1 : decode cX4_init 1 = .ok (.invokespecial 3, 3) := by decide +kernel
theorem dX4_init_4 : decode cX4_init 4 = .ok (.aload_n 0, 1) := by decide +kernel
theorem dX4_init_5 : decode cX4_init 5 = .ok (.iconst 0, 1) := by decide +kernel
theorem dX4_init_6 : decode cX4_init 6 = .ok (.putfield 9, 3) := by decide +kernel
theorem dX4_init_9 : decode cX4_init 9 = .ok (.aload_n 0, 1) := by decide +kernel
theorem dX4_init_10 : decode cX4_init 10 = .ok (.bipush 6, 2) := by decide +kernel
theorem dX4_init_12 : decode cX4_init 12 = .ok (.newarray .int, 2) := by decide +kernel
theorem dX4_init_14 : decode cX4_init 14 = .ok (.putfield 15, 3) := by decide +kernel
theorem dX4_init_17 : decode cX4_init 17 = .ok (.aload_n 0, 1) := by decide +kernel
theorem dX4_init_18 : decode cX4_init 18 = .ok (.bipush 6, 2) := by decide +kernel
theorem dX4_init_20 : decode cX4_init 20 = .ok (.newarray .int, 2) := by decide +kernel
theorem dX4_init_22 : decode cX4_init 22 = .ok (.putfield 19, 3) := by decide +kernel
theorem dX4_init_25 : decode cX4_init 25 = .ok (.aload_n 0, 1) := by decide +kernel
theorem dX4_init_26 : decode cX4_init 26 = .ok (.bipush 6, 2) := by decide +kernel
theorem dX4_init_28 : decode cX4_init 28 = .ok (.newarray .int, 2) := by decide +kernel
theorem dX4_init_30 : decode cX4_init 30 = .ok (.putfield 22, 3) := by decide +kernel
theorem dX4_init_33 : decode cX4_init 33 = .ok (.return_, 1) := by decide +kernel
theorem dX4_adds_0 : decode cX4_adds 0 = .ok (.aload_n 0, 1) := by decide +kernel
theorem dX4_adds_1 : decode cX4_adds 1 = .ok (.getfield 9, 3) := by decide +kernel
theorem dX4_adds_4 : decode cX4_adds 4 = .ok (.bipush 6, 2) := by decide +kernel
theorem dX4_adds_6 : decode cX4_adds 6 = .ok (.if_icmp .lt 5, 3) := by decide +kernel
theorem dX4_adds_9 : decode cX4_adds 9 = .ok (.iconst 0, 1) := by decide +kernel
theorem dX4_adds_10 : decode cX4_adds 10 = .ok (.ireturn, 1) := by decide +kernel
theorem dX4_adds_11 : decode cX4_adds 11 = .ok (.aload_n 0, 1) := by decide +kernel
theorem dX4_adds_12 : decode cX4_adds 12 = .ok (.getfield 15, 3) := by decide +kernel
theorem dX4_adds_15 : decode cX4_adds 15 = .ok (.aload_n 0, 1) := by decide +kernel
theorem dX4_adds_16 : decode cX4_adds 16 = .ok (.getfield 9, 3) := by decide +kernel
theorem dX4_adds_19 : decode cX4_adds 19 = .ok (.iload_n 1, 1) := by decide +kernel
theorem dX4_adds_20 : decode cX4_adds 20 = .ok (.iastore, 1) := by decide +kernel
theorem dX4_adds_21 : decode cX4_adds 21 = .ok (.aload_n 0, 1) := by decide +kernel
theorem dX4_adds_22 : decode cX4_adds 22 = .ok (.getfield 19, 3) := by decide +kernel
theorem dX4_adds_25 : decode cX4_adds 25 = .ok (.aload_n 0, 1) := by decide +kernel
theorem dX4_adds_26 : decode cX4_adds 26 = .ok (.getfield 9, 3) := by decide +kernel
theorem dX4_adds_29 : decode cX4_adds 29 = .ok (.iload_n 2, 1) := by decide +kernel
theorem dX4_adds_30 : decode cX4_adds 30 = .ok (.iastore, 1) := by decide +kernel
theorem dX4_adds_31 : decode cX4_adds 31 = .ok (.aload_n 0, 1) := by decide +kernel
theorem dX4_adds_32 : decode cX4_adds 32 = .ok (.getfield 22, 3) := by decide +kernel
theorem dX4_adds_35 : decode cX4_adds 35 = .ok (.aload_n 0, 1) := by decide +kernel
theorem dX4_adds_36 : decode cX4_adds 36 = .ok (.getfield 9, 3) := by decide +kernel
theorem dX4_adds_39 : decode cX4_adds 39 = .ok (.iload_n 3, 1) := by decide +kernel
theorem dX4_adds_40 : decode cX4_adds 40 = .ok (.iastore, 1) := by decide +kernel
theorem dX4_adds_41 : decode cX4_adds 41 = .ok (.aload_n 0, 1) := by decide +kernel
theorem dX4_adds_42 : decode cX4_adds 42 = .ok (.dup, 1) := by decide +kernel
theorem dX4_adds_43 : decode cX4_adds 43 = .ok (.getfield 9, 3) := by decide +kernel
theorem dX4_adds_46 : decode cX4_adds 46 = .ok (.iconst 1, 1) := by decide +kernel
theorem dX4_adds_47 : decode cX4_adds 47 = .ok (.iadd, 1) := by decide +kernel
theorem dX4_adds_48 : decode cX4_adds 48 = .ok (.putfield 9, 3) := by decide +kernel
theorem dX4_adds_51 : decode cX4_adds 51 = .ok (.iconst 1, 1) := by decide +kernel
theorem dX4_adds_52 : decode cX4_adds 52 = .ok (.ireturn, 1) := by decide +kernel
theorem dX5_init_0 : decode cX5_init 0 = .ok (.aload_n 0, 1) := by decide +kernel
theorem dX5_init_1 : decode cX5_init 1 = .ok (.invokespecial 3, 3) := by decide +kernel
theorem dX5_init_4 : decode cX5_init 4 = .ok (.aload_n 0, 1) := by decide +kernel
theorem dX5_init_5 : decode cX5_init 5 = .ok (.iconst 0, 1) := by decide +kernel
theorem dX5_init_6 : decode cX5_init 6 = .ok (.putfield 9, 3) := by decide +kernel
theorem dX5_init_9 : decode cX5_init 9 = .ok (.aload_n 0, 1) := by decide +kernel
theorem dX5_init_10 : decode cX5_init 10 = .ok (.new 15, 3) := by decide +kernel
theorem dX5_init_13 : decode cX5_init 13 = .ok (.dup, 1) := by decide +kernel
theorem dX5_init_14 : decode cX5_init 14 = .ok (.invokespecial 17, 3) := by decide +kernel
theorem dX5_init_17 : decode cX5_init 17 = .ok (.putfield 18, 3) := by decide +kernel
theorem dX5_init_20 : decode cX5_init 20 = .ok (.aload_n 0, 1) := by decide +kernel
theorem dX5_init_21 : decode cX5_init 21 = .ok (.new 22, 3) := by decide +kernel
theorem dX5_init_24 : decode cX5_init 24 = .ok (.dup, 1) := by decide +kernel
theorem dX5_init_25 : decode cX5_init 25 = .ok (.invokespecial 24, 3) := by decide +kernel
theorem dX5_init_28 : decode cX5_init 28 = .ok (.putfield 25, 3) := by decide +kernel
theorem dX5_init_31 : decode cX5_init 31 = .ok (.aload_n 0, 1) := by decide +kernel
theorem dX5_init_32 : decode cX5_init 32 = .ok (.sipush 200, 3) := by decide +kernel
theorem dX5_init_35 : decode cX5_init 35 = .ok (.newarray .int, 2) := by decide +kernel
theorem dX5_init_37 : decode cX5_init 37 = .ok (.putfield 29, 3) := by decide +kernel
theorem dX5_init_40 : decode cX5_init 40 = .ok (.aload_n 0, 1) := by decide +kernel
theorem dX5_init_41 : decode cX5_init 41 = .ok (.sipush 201, 3) := by decide +kernel
theorem dX5_init_44 : decode cX5_init 44 = .ok (.newarray .int, 2) := by decide +kernel
theorem dX5_init_46 : decode cX5_init 46 = .ok (.putfield 33, 3) := by decide +kernel
theorem dX5_init_49 : decode cX5_init 49 = .ok (.aload_n 0, 1) := by decide +kernel
theorem dX5_init_50 : decode cX5_init 50 = .ok (.sipush 201, 3) := by decide +kernel
theorem dX5_init_53 : decode cX5_init 53 = .ok (.newarray .int, 2) := by decide +kernel
theorem dX5_init_55 : decode cX5_init 55 = .ok (.putfield 36, 3) := by decide +kernel
theorem dX5_init_58 : decode cX5_init 58 = .ok (.aload_n 0, 1) := by decide +kernel
theorem dX5_init_59 : decode cX5_init 59 = .ok (.iconst 0, 1) := by decide +kernel
theorem dX5_init_60 : decode cX5_init 60 = .ok (.putfield 39, 3) := by decide +kernel
theorem dX5_init_63 : decode cX5_init 63 = .ok (.aload_n 0, 1) := by decide +kernel
theorem dX5_init_64 : decode cX5_init 64 = .ok (.iconst 0, 1) := by decide +kernel
theorem dX5_init_65 : decode cX5_init 65 = .ok (.putfield 42, 3) := by decide +kernel
theorem dX5_init_68 : decode cX5_init 68 = .ok (.aload_n 0, 1) := by decide +kernel
theorem dX5_init_69 : decode cX5_init 69 = .ok (.iconst (-1), 1) := by decide +kernel
theorem dX5_init_70 : decode cX5_init 70 = .ok (.putfield 45, 3) := by decide +kernel
theorem dX5_init_73 : decode cX5_init 73 = .ok (.aload_n 0, 1) := by decide +kernel
theorem dX5_init_74 : decode cX5_init 74 = .ok (.iconst 0, 1) := by decide +kernel
theorem dX5_init_75 : decode cX5_init 75 = .ok (.putfield 48, 3) := by decide +kernel
theorem dX5_init_78 : decode cX5_init 78 = .ok (.return_, 1) := by decide +kernel
theorem dX5_adds_0 : decode cX5_adds 0 = .ok (.aload_n 0, 1) := by decide +kernel
theorem dX5_adds_1 : decode cX5_adds 1 = .ok (.getfield 9, 3) := by decide +kernel
theorem dX5_adds_4 : decode cX5_adds 4 = .ok (.sipush 200, 3) := by decide +kernel
theorem dX5_adds_7 : decode cX5_adds 7 = .ok (.if_icmp .lt 5, 3) := by decide +kernel
theorem dX5_adds_10 : decode cX5_adds 10 = .ok (.iconst 0, 1) := by decide +kernel
theorem dX5_adds_11 : decode cX5_adds 11 = .ok (.ireturn, 1) := by decide +kernel
theorem dX5_adds_12 : decode cX5_adds 12 = .ok (.aload_n 0, 1) := by decide +kernel
theorem dX5_adds_13 : decode cX5_adds 13 = .ok (.getfield 29, 3) := by decide +kernel
theorem dX5_adds_16 : decode cX5_adds 16 = .ok (.aload_n 0, 1) := by decide +kernel
theorem dX5_adds_17 : decode cX5_adds 17 = .ok (.getfield 9, 3) := by decide +kernel
theorem dX5_adds_20 : decode cX5_adds 20 = .ok (.iload_n 1, 1) := by decide +kernel
theorem dX5_adds_21 : decode cX5_adds 21 = .ok (.iastore, 1) := by decide +kernel
theorem dX5_adds_22 : decode cX5_adds 22 = .ok (.aload_n 0, 1) := by decide +kernel
theorem dX5_adds_23 : decode cX5_adds 23 = .ok (.dup, 1) := by decide +kernel
theorem dX5_adds_24 : decode cX5_adds 24 = .ok (.getfield 9, 3) := by decide +kernel
theorem dX5_adds_27 : decode cX5_adds 27 = .ok (.iconst 1, 1) := by decide +kernel
theorem dX5_adds_28 : decode cX5_adds 28 = .ok (.iadd, 1) := by decide +kernel
theorem dX5_adds_29 : decode cX5_adds 29 = .ok (.putfield 9, 3) := by decide +kernel
theorem dX5_adds_32 : decode cX5_adds 32 = .ok (.iconst 1, 1) := by decide +kernel
theorem dX5_adds_33 : decode cX5_adds 33 = .ok (.ireturn, 1) := by decide +kernel
theorem dX5_reads_0 : decode cX5_reads 0 = .ok (.aload_n 0, 1) := by decide +kernel
theorem dX5_reads_1 : decode cX5_reads 1 = .ok (.invokevirtual 52, 3) := by decide +kernel
theorem dX5_reads_4 : decode cX5_reads 4 = .ok (.aload_n 0, 1) := by decide +kernel
theorem dX5_reads_5 : decode cX5_reads 5 = .ok (.getfield 18, 3) := by decide +kernel
theorem dX5_reads_8 : decode cX5_reads 8 = .ok (.invokevirtual 55, 3) := by decide +kernel
theorem dX5_reads_11 : decode cX5_reads 11 = .ok (.aload_n 0, 1) := by decide +kernel
theorem dX5_reads_12 : decode cX5_reads 12 = .ok (.iconst 0, 1) := by decide +kernel
theorem dX5_reads_13 : decode cX5_reads 13 = .ok (.putfield 39, 3) := by decide +kernel
theorem dX5_reads_16 : decode cX5_reads 16 = .ok (.aload_n 0, 1) := by decide +kernel
theorem dX5_reads_17 : decode cX5_reads 17 = .ok (.iconst 0, 1) := by decide +kernel
theorem dX5_reads_18 : decode cX5_reads 18 = .ok (.putfield 42, 3) := by decide +kernel
theorem dX5_reads_21 : decode cX5_reads 21 = .ok (.aload_n 0, 1) := by decide +kernel
theorem dX5_reads_22 : decode cX5_reads 22 = .ok (.iconst (-1), 1) := by decide +kernel
theorem dX5_reads_23 : decode cX5_reads 23 = .ok (.putfield 45, 3) := by decide +kernel
theorem dX5_reads_26 : decode cX5_reads 26 = .ok (.aload_n 0, 1) := by decide +kernel
theorem dX5_reads_27 : decode cX5_reads 27 = .ok (.iconst 0, 1) := by decide +kernel
theorem dX5_reads_28 : decode cX5_reads 28 = .ok (.putfield 48, 3) := by decide +kernel
theorem dX5_reads_31 : decode cX5_reads 31 = .ok (.iconst 0, 1) := by decide +kernel
theorem dX5_reads_32 : decode cX5_reads 32 = .ok (.istore_n 1, 1) := by decide +kernel
theorem dX5_reads_33 : decode cX5_reads 33 = .ok (.iload_n 1, 1) := by decide +kernel
theorem dX5_reads_34 : decode cX5_reads 34 = .ok (.sipush 200, 3) := by decide +kernel
theorem dX5_reads_37 : decode cX5_reads 37 = .ok (.if_icmp .ge 35, 3) := by decide +kernel
theorem dX5_reads_40 : decode cX5_reads 40 = .ok (.aload_n 0, 1) := by decide +kernel
theorem dX5_reads_41 : decode cX5_reads 41 = .ok (.getfield 33, 3) := by decide +kernel
theorem dX5_reads_44 : decode cX5_reads 44 = .ok (.aload_n 0, 1) := by decide +kernel
theorem dX5_reads_45 : decode cX5_reads 45 = .ok (.getfield 39, 3) := by decide +kernel
theorem dX5_reads_48 : decode cX5_reads 48 = .ok (.iaload, 1) := by decide +kernel
theorem dX5_reads_49 : decode cX5_reads 49 = .ok (.bipush (-2), 2) := by decide +kernel
theorem dX5_reads_51 : decode cX5_reads 51 = .ok (.if_icmp .eq 21, 3) := by decide +kernel
theorem dX5_reads_54 : decode cX5_reads 54 = .ok (.aload_n 0, 1) := by decide +kernel
theorem dX5_reads_55 : decode cX5_reads 55 = .ok (.getfield 45, 3) := by decide +kernel
theorem dX5_reads_58 : decode cX5_reads 58 = .ok (.iconst (-1), 1) := by decide +kernel
theorem dX5_reads_59 : decode cX5_reads 59 = .ok (.if_icmp .ne 13, 3) := by decide +kernel
theorem dX5_reads_62 : decode cX5_reads 62 = .ok (.aload_n 0, 1) := by decide +kernel
theorem dX5_reads_63 : decode cX5_reads 63 = .ok (.invokevirtual 58, 3) := by decide +kernel
theorem dX5_reads_66 : decode cX5_reads 66 = .ok (.iinc 1 1, 3) := by decide +kernel
theorem dX5_reads_69 : decode cX5_reads 69 = .ok (.goto (-36), 3) := by decide +kernel
theorem dX5_reads_72 : decode cX5_reads 72 = .ok (.aload_n 0, 1) := by decide +kernel
theorem dX5_reads_73 : decode cX5_reads 73 = .ok (.getfield 45, 3) := by decide +kernel
theorem dX5_reads_76 : decode cX5_reads 76 = .ok (.iconst (-1), 1) := by decide +kernel
theorem dX5_reads_77 : decode cX5_reads 77 = .ok (.if_icmp .ne 10, 3) := by decide +kernel
theorem dX5_reads_80 : decode cX5_reads 80 = .ok (.aload_n 0, 1) := by decide +kernel
theorem dX5_reads_81 : decode cX5_reads 81 = .ok (.getfield 42, 3) := by decide +kernel
theorem dX5_reads_84 : decode cX5_reads 84 = .ok (.goto 10, 3) := by decide +kernel
theorem dX5_reads_87 : decode cX5_reads 87 = .ok (.bipush (-10), 2) := by decide +kernel
theorem dX5_reads_89 : decode cX5_reads 89 = .ok (.aload_n 0, 1) := by decide +kernel
theorem dX5_reads_90 : decode cX5_reads 90 = .ok (.getfield 45, 3) := by decide +kernel
theorem dX5_reads_93 : decode cX5_reads 93 = .ok (.isub, 1) := by decide +kernel
theorem dX5_reads_94 : decode cX5_reads 94 = .ok (.ireturn, 1) := by decide +kernel
theorem dX5_splitsIntoTokens_0 : decode cX5_splitsIntoTokens 0 = .ok (.iconst 0, 1) := by decide +kernel
theorem dX5_splitsIntoTokens_1 : decode cX5_splitsIntoTokens 1 = .ok (.istore_n 1, 1) := by decide +kernel
theorem dX5_splitsIntoTokens_2 : decode cX5_splitsIntoTokens 2 = .ok (.iconst 0, 1) := by decide +kernel
theorem dX5_splitsIntoTokens_3 : decode cX5_splitsIntoTokens 3 = .ok (.istore_n 2, 1) := by decide +kernel
theorem dX5_splitsIntoTokens_4 : decode cX5_splitsIntoTokens 4 = .ok (.iload_n 2, 1) := by decide +kernel
theorem dX5_splitsIntoTokens_5 : decode cX5_splitsIntoTokens 5 = .ok (.aload_n 0, 1) := by decide +kernel
theorem dX5_splitsIntoTokens_6 : decode cX5_splitsIntoTokens 6 = .ok (.getfield 9, 3) := by decide +kernel
theorem dX5_splitsIntoTokens_9 : decode cX5_splitsIntoTokens 9 = .ok (.if_icmp .ge 38, 3) := by decide +kernel
theorem dX5_splitsIntoTokens_12 : decode cX5_splitsIntoTokens 12 = .ok (.aload_n 0, 1) := by decide +kernel
theorem dX5_splitsIntoTokens_13 : decode cX5_splitsIntoTokens 13 = .ok (.iload_n 2, 1) := by decide +kernel
theorem dX5_splitsIntoTokens_14 : decode cX5_splitsIntoTokens 14 = .ok (.invokevirtual 61, 3) := by decide +kernel
theorem dX5_splitsIntoTokens_17 : decode cX5_splitsIntoTokens 17 = .ok (.ifCond .eq 24, 3) := by decide +kernel
theorem dX5_splitsIntoTokens_20 : decode cX5_splitsIntoTokens 20 = .ok (.aload_n 0, 1) := by decide +kernel
theorem dX5_splitsIntoTokens_21 : decode cX5_splitsIntoTokens 21 = .ok (.getfield 33, 3) := by decide +kernel
theorem dX5_splitsIntoTokens_24 : decode cX5_splitsIntoTokens 24 = .ok (.iload_n 1, 1) := by decide +kernel
theorem dX5_splitsIntoTokens_25 : decode cX5_splitsIntoTokens 25 = .ok (.aload_n 0, 1) := by decide +kernel
theorem dX5_splitsIntoTokens_26 : decode cX5_splitsIntoTokens 26 = .ok (.iload_n 2, 1) := by decide +kernel
theorem dX5_splitsIntoTokens_27 : decode cX5_splitsIntoTokens 27 = .ok (.invokevirtual 65, 3) := by decide +kernel
theorem dX5_splitsIntoTokens_30 : decode cX5_splitsIntoTokens 30 = .ok (.iastore, 1) := by decide +kernel
theorem dX5_splitsIntoTokens_31 : decode cX5_splitsIntoTokens 31 = .ok (.aload_n 0, 1) := by decide +kernel
theorem dX5_splitsIntoTokens_32 : decode cX5_splitsIntoTokens 32 = .ok (.getfield 36, 3) := by decide +kernel
theorem dX5_splitsIntoTokens_35 : decode cX5_splitsIntoTokens 35 = .ok (.iload_n 1, 1) := by decide +kernel
theorem dX5_splitsIntoTokens_36 : decode cX5_splitsIntoTokens 36 = .ok (.iload_n 2, 1) := by decide +kernel
theorem dX5_splitsIntoTokens_37 : decode cX5_splitsIntoTokens 37 = .ok (.iastore, 1) := by decide +kernel
theorem dX5_splitsIntoTokens_38 : decode cX5_splitsIntoTokens 38 = .ok (.iinc 1 1, 3) := by decide +kernel
theorem dX5_splitsIntoTokens_41 : decode cX5_splitsIntoTokens 41 = .ok (.iinc 2 1, 3) := by decide +kernel
theorem dX5_splitsIntoTokens_44 : decode cX5_splitsIntoTokens 44 = .ok (.goto (-40), 3) := by decide +kernel
theorem dX5_splitsIntoTokens_47 : decode cX5_splitsIntoTokens 47 = .ok (.aload_n 0, 1) := by decide +kernel
theorem dX5_splitsIntoTokens_48 : decode cX5_splitsIntoTokens 48 = .ok (.getfield 33, 3) := by decide +kernel
theorem dX5_splitsIntoTokens_51 : decode cX5_splitsIntoTokens 51 = .ok (.iload_n 1, 1) := by decide +kernel
theorem dX5_splitsIntoTokens_52 : decode cX5_splitsIntoTokens 52 = .ok (.bipush (-2), 2) := by decide +kernel
theorem dX5_splitsIntoTokens_54 : decode cX5_splitsIntoTokens 54 = .ok (.iastore, 1) := by decide +kernel
theorem dX5_splitsIntoTokens_55 : decode cX5_splitsIntoTokens 55 = .ok (.aload_n 0, 1) := by decide +kernel
theorem dX5_splitsIntoTokens_56 : decode cX5_splitsIntoTokens 56 = .ok (.getfield 36, 3) := by decide +kernel
theorem dX5_splitsIntoTokens_59 : decode cX5_splitsIntoTokens 59 = .ok (.iload_n 1, 1) := by decide +kernel
theorem dX5_splitsIntoTokens_60 : decode cX5_splitsIntoTokens 60 = .ok (.aload_n 0, 1) := by decide +kernel
theorem dX5_splitsIntoTokens_61 : decode cX5_splitsIntoTokens 61 = .ok (.getfield 9, 3) := by decide +kernel
theorem dX5_splitsIntoTokens_64 : decode cX5_splitsIntoTokens 64 = .ok (.iastore, 1) := by decide +kernel
theorem dX5_splitsIntoTokens_65 : decode cX5_splitsIntoTokens 65 = .ok (.return_, 1) := by decide +kernel
theorem dX5_startsToken_0 : decode cX5_startsToken 0 = .ok (.aload_n 0, 1) := by decide +kernel
theorem dX5_startsToken_1 : decode cX5_startsToken 1 = .ok (.iload_n 1, 1) := by decide +kernel
theorem dX5_startsToken_2 : decode cX5_startsToken 2 = .ok (.invokevirtual 69, 3) := by decide +kernel
theorem dX5_startsToken_5 : decode cX5_startsToken 5 = .ok (.ifCond .eq 17, 3) := by decide +kernel
theorem dX5_startsToken_8 : decode cX5_startsToken 8 = .ok (.aload_n 0, 1) := by decide +kernel
theorem dX5_startsToken_9 : decode cX5_startsToken 9 = .ok (.iload_n 1, 1) := by decide +kernel
theorem dX5_startsToken_10 : decode cX5_startsToken 10 = .ok (.iconst 1, 1) := by decide +kernel
theorem dX5_startsToken_11 : decode cX5_startsToken 11 = .ok (.isub, 1) := by decide +kernel
theorem dX5_startsToken_12 : decode cX5_startsToken 12 = .ok (.invokevirtual 69, 3) := by decide +kernel
theorem dX5_startsToken_15 : decode cX5_startsToken 15 = .ok (.ifCond .eq 7, 3) := by decide +kernel
theorem dX5_startsToken_18 : decode cX5_startsToken 18 = .ok (.iconst 1, 1) := by decide +kernel
theorem dX5_startsToken_19 : decode cX5_startsToken 19 = .ok (.goto 4, 3) := by decide +kernel
theorem dX5_startsToken_22 : decode cX5_startsToken 22 = .ok (.iconst 0, 1) := by decide +kernel
theorem dX5_startsToken_23 : decode cX5_startsToken 23 = .ok (.istore_n 2, 1) := by decide +kernel
theorem dX5_startsToken_24 : decode cX5_startsToken 24 = .ok (.aload_n 0, 1) := by decide +kernel
theorem dX5_startsToken_25 : decode cX5_startsToken 25 = .ok (.getfield 29, 3) := by decide +kernel
theorem dX5_startsToken_28 : decode cX5_startsToken 28 = .ok (.iload_n 1, 1) := by decide +kernel
theorem dX5_startsToken_29 : decode cX5_startsToken 29 = .ok (.iaload, 1) := by decide +kernel
theorem dX5_startsToken_30 : decode cX5_startsToken 30 = .ok (.bipush 32, 2) := by decide +kernel
theorem dX5_startsToken_32 : decode cX5_startsToken 32 = .ok (.if_icmp .eq 11, 3) := by decide +kernel
theorem dX5_startsToken_35 : decode cX5_startsToken 35 = .ok (.iload_n 2, 1) := by decide +kernel
theorem dX5_startsToken_36 : decode cX5_startsToken 36 = .ok (.ifCond .ne 7, 3) := by decide +kernel
theorem dX5_startsToken_39 : decode cX5_startsToken 39 = .ok (.iconst 1, 1) := by decide +kernel
theorem dX5_startsToken_40 : decode cX5_startsToken 40 = .ok (.goto 4, 3) := by decide +kernel
theorem dX5_startsToken_43 : decode cX5_startsToken 43 = .ok (.iconst 0, 1) := by decide +kernel
theorem dX5_startsToken_44 : decode cX5_startsToken 44 = .ok (.ireturn, 1) := by decide +kernel
theorem dX5_tokenFrom_0 : decode cX5_tokenFrom 0 = .ok (.aload_n 0, 1) := by decide +kernel
theorem dX5_tokenFrom_1 : decode cX5_tokenFrom 1 = .ok (.iload_n 1, 1) := by decide +kernel
theorem dX5_tokenFrom_2 : decode cX5_tokenFrom 2 = .ok (.invokevirtual 69, 3) := by decide +kernel
theorem dX5_tokenFrom_5 : decode cX5_tokenFrom 5 = .ok (.ifCond .eq 9, 3) := by decide +kernel
theorem dX5_tokenFrom_8 : decode cX5_tokenFrom 8 = .ok (.aload_n 0, 1) := by decide +kernel
theorem dX5_tokenFrom_9 : decode cX5_tokenFrom 9 = .ok (.iload_n 1, 1) := by decide +kernel
theorem dX5_tokenFrom_10 : decode cX5_tokenFrom 10 = .ok (.invokevirtual 72, 3) := by decide +kernel
theorem dX5_tokenFrom_13 : decode cX5_tokenFrom 13 = .ok (.ireturn, 1) := by decide +kernel
theorem dX5_tokenFrom_14 : decode cX5_tokenFrom 14 = .ok (.aload_n 0, 1) := by decide +kernel
theorem dX5_tokenFrom_15 : decode cX5_tokenFrom 15 = .ok (.getfield 29, 3) := by decide +kernel
theorem dX5_tokenFrom_18 : decode cX5_tokenFrom 18 = .ok (.iload_n 1, 1) := by decide +kernel
theorem dX5_tokenFrom_19 : decode cX5_tokenFrom 19 = .ok (.iaload, 1) := by decide +kernel
theorem dX5_tokenFrom_20 : decode cX5_tokenFrom 20 = .ok (.istore_n 2, 1) := by decide +kernel
theorem dX5_tokenFrom_21 : decode cX5_tokenFrom 21 = .ok (.iload_n 2, 1) := by decide +kernel
theorem dX5_tokenFrom_22 : decode cX5_tokenFrom 22 = .ok (.bipush 115, 2) := by decide +kernel
theorem dX5_tokenFrom_24 : decode cX5_tokenFrom 24 = .ok (.if_icmp .eq 27, 3) := by decide +kernel
theorem dX5_tokenFrom_27 : decode cX5_tokenFrom 27 = .ok (.iload_n 2, 1) := by decide +kernel
theorem dX5_tokenFrom_28 : decode cX5_tokenFrom 28 = .ok (.bipush 108, 2) := by decide +kernel
theorem dX5_tokenFrom_30 : decode cX5_tokenFrom 30 = .ok (.if_icmp .eq 21, 3) := by decide +kernel
theorem dX5_tokenFrom_33 : decode cX5_tokenFrom 33 = .ok (.iload_n 2, 1) := by decide +kernel
theorem dX5_tokenFrom_34 : decode cX5_tokenFrom 34 = .ok (.bipush 100, 2) := by decide +kernel
theorem dX5_tokenFrom_36 : decode cX5_tokenFrom 36 = .ok (.if_icmp .eq 15, 3) := by decide +kernel
theorem dX5_tokenFrom_39 : decode cX5_tokenFrom 39 = .ok (.iload_n 2, 1) := by decide +kernel
theorem dX5_tokenFrom_40 : decode cX5_tokenFrom 40 = .ok (.bipush 112, 2) := by decide +kernel
theorem dX5_tokenFrom_42 : decode cX5_tokenFrom 42 = .ok (.if_icmp .eq 9, 3) := by decide +kernel
theorem dX5_tokenFrom_45 : decode cX5_tokenFrom 45 = .ok (.iload_n 2, 1) := by decide +kernel
theorem dX5_tokenFrom_46 : decode cX5_tokenFrom 46 = .ok (.bipush 59, 2) := by decide +kernel
theorem dX5_tokenFrom_48 : decode cX5_tokenFrom 48 = .ok (.if_icmp .ne 7, 3) := by decide +kernel
theorem dX5_tokenFrom_51 : decode cX5_tokenFrom 51 = .ok (.iconst 1, 1) := by decide +kernel
theorem dX5_tokenFrom_52 : decode cX5_tokenFrom 52 = .ok (.goto 4, 3) := by decide +kernel
theorem dX5_tokenFrom_55 : decode cX5_tokenFrom 55 = .ok (.iconst 0, 1) := by decide +kernel
theorem dX5_tokenFrom_56 : decode cX5_tokenFrom 56 = .ok (.istore_n 3, 1) := by decide +kernel
theorem dX5_tokenFrom_57 : decode cX5_tokenFrom 57 = .ok (.iload_n 3, 1) := by decide +kernel
theorem dX5_tokenFrom_58 : decode cX5_tokenFrom 58 = .ok (.ifCond .eq 8, 3) := by decide +kernel
theorem dX5_tokenFrom_61 : decode cX5_tokenFrom 61 = .ok (.iload_n 2, 1) := by decide +kernel
theorem dX5_tokenFrom_62 : decode cX5_tokenFrom 62 = .ok (.ineg, 1) := by decide +kernel
theorem dX5_tokenFrom_63 : decode cX5_tokenFrom 63 = .ok (.goto 4, 3) := by decide +kernel
theorem dX5_tokenFrom_66 : decode cX5_tokenFrom 66 = .ok (.iconst (-1), 1) := by decide +kernel
theorem dX5_tokenFrom_67 : decode cX5_tokenFrom 67 = .ok (.ireturn, 1) := by decide +kernel
theorem dX5_numberFrom_0 : decode cX5_numberFrom 0 = .ok (.aload_n 0, 1) := by decide +kernel
theorem dX5_numberFrom_1 : decode cX5_numberFrom 1 = .ok (.getfield 29, 3) := by decide +kernel
theorem dX5_numberFrom_4 : decode cX5_numberFrom 4 = .ok (.iload_n 1, 1) := by decide +kernel
theorem dX5_numberFrom_5 : decode cX5_numberFrom 5 = .ok (.iaload, 1) := by decide +kernel
theorem dX5_numberFrom_6 : decode cX5_numberFrom 6 = .ok (.bipush 48, 2) := by decide +kernel
theorem dX5_numberFrom_8 : decode cX5_numberFrom 8 = .ok (.isub, 1) := by decide +kernel
theorem dX5_numberFrom_9 : decode cX5_numberFrom 9 = .ok (.istore_n 2, 1) := by decide +kernel
theorem dX5_numberFrom_10 : decode cX5_numberFrom 10 = .ok (.aload_n 0, 1) := by decide +kernel
theorem dX5_numberFrom_11 : decode cX5_numberFrom 11 = .ok (.iload_n 1, 1) := by decide +kernel
theorem dX5_numberFrom_12 : decode cX5_numberFrom 12 = .ok (.iconst 1, 1) := by decide +kernel
theorem dX5_numberFrom_13 : decode cX5_numberFrom 13 = .ok (.iadd, 1) := by decide +kernel
theorem dX5_numberFrom_14 : decode cX5_numberFrom 14 = .ok (.invokevirtual 69, 3) := by decide +kernel
theorem dX5_numberFrom_17 : decode cX5_numberFrom 17 = .ok (.ifCond .ne 5, 3) := by decide +kernel
theorem dX5_numberFrom_20 : decode cX5_numberFrom 20 = .ok (.iload_n 2, 1) := by decide +kernel
theorem dX5_numberFrom_21 : decode cX5_numberFrom 21 = .ok (.ireturn, 1) := by decide +kernel
theorem dX5_numberFrom_22 : decode cX5_numberFrom 22 = .ok (.iload_n 2, 1) := by decide +kernel
theorem dX5_numberFrom_23 : decode cX5_numberFrom 23 = .ok (.ifCond .eq 13, 3) := by decide +kernel
theorem dX5_numberFrom_26 : decode cX5_numberFrom 26 = .ok (.aload_n 0, 1) := by decide +kernel
theorem dX5_numberFrom_27 : decode cX5_numberFrom 27 = .ok (.iload_n 1, 1) := by decide +kernel
theorem dX5_numberFrom_28 : decode cX5_numberFrom 28 = .ok (.iconst 2, 1) := by decide +kernel
theorem dX5_numberFrom_29 : decode cX5_numberFrom 29 = .ok (.iadd, 1) := by decide +kernel
theorem dX5_numberFrom_30 : decode cX5_numberFrom 30 = .ok (.invokevirtual 69, 3) := by decide +kernel
theorem dX5_numberFrom_33 : decode cX5_numberFrom 33 = .ok (.ifCond .eq 5, 3) := by decide +kernel
theorem dX5_numberFrom_36 : decode cX5_numberFrom 36 = .ok (.iconst (-1), 1) := by decide +kernel
theorem dX5_numberFrom_37 : decode cX5_numberFrom 37 = .ok (.ireturn, 1) := by decide +kernel
theorem dX5_numberFrom_38 : decode cX5_numberFrom 38 = .ok (.bipush 10, 2) := by decide +kernel
theorem dX5_numberFrom_40 : decode cX5_numberFrom 40 = .ok (.iload_n 2, 1) := by decide +kernel
theorem dX5_numberFrom_41 : decode cX5_numberFrom 41 = .ok (.imul, 1) := by decide +kernel
theorem dX5_numberFrom_42 : decode cX5_numberFrom 42 = .ok (.aload_n 0, 1) := by decide +kernel
theorem dX5_numberFrom_43 : decode cX5_numberFrom 43 = .ok (.getfield 29, 3) := by decide +kernel
theorem dX5_numberFrom_46 : decode cX5_numberFrom 46 = .ok (.iload_n 1, 1) := by decide +kernel
theorem dX5_numberFrom_47 : decode cX5_numberFrom 47 = .ok (.iconst 1, 1) := by decide +kernel
theorem dX5_numberFrom_48 : decode cX5_numberFrom 48 = .ok (.iadd, 1) := by decide +kernel
theorem dX5_numberFrom_49 : decode cX5_numberFrom 49 = .ok (.iaload, 1) := by decide +kernel
theorem dX5_numberFrom_50 : decode cX5_numberFrom 50 = .ok (.iadd, 1) := by decide +kernel
theorem dX5_numberFrom_51 : decode cX5_numberFrom 51 = .ok (.bipush 48, 2) := by decide +kernel
theorem dX5_numberFrom_53 : decode cX5_numberFrom 53 = .ok (.isub, 1) := by decide +kernel
theorem dX5_numberFrom_54 : decode cX5_numberFrom 54 = .ok (.ireturn, 1) := by decide +kernel
theorem dX5_isDigit_0 : decode cX5_isDigit 0 = .ok (.iload_n 1, 1) := by decide +kernel
theorem dX5_isDigit_1 : decode cX5_isDigit 1 = .ok (.ifCond .lt 37, 3) := by decide +kernel
theorem dX5_isDigit_4 : decode cX5_isDigit 4 = .ok (.iload_n 1, 1) := by decide +kernel
theorem dX5_isDigit_5 : decode cX5_isDigit 5 = .ok (.aload_n 0, 1) := by decide +kernel
theorem dX5_isDigit_6 : decode cX5_isDigit 6 = .ok (.getfield 9, 3) := by decide +kernel
theorem dX5_isDigit_9 : decode cX5_isDigit 9 = .ok (.if_icmp .ge 29, 3) := by decide +kernel
theorem dX5_isDigit_12 : decode cX5_isDigit 12 = .ok (.aload_n 0, 1) := by decide +kernel
theorem dX5_isDigit_13 : decode cX5_isDigit 13 = .ok (.getfield 29, 3) := by decide +kernel
theorem dX5_isDigit_16 : decode cX5_isDigit 16 = .ok (.iload_n 1, 1) := by decide +kernel
theorem dX5_isDigit_17 : decode cX5_isDigit 17 = .ok (.iaload, 1) := by decide +kernel
theorem dX5_isDigit_18 : decode cX5_isDigit 18 = .ok (.bipush 48, 2) := by decide +kernel
theorem dX5_isDigit_20 : decode cX5_isDigit 20 = .ok (.if_icmp .lt 18, 3) := by decide +kernel
theorem dX5_isDigit_23 : decode cX5_isDigit 23 = .ok (.aload_n 0, 1) := by decide +kernel
theorem dX5_isDigit_24 : decode cX5_isDigit 24 = .ok (.getfield 29, 3) := by decide +kernel
theorem dX5_isDigit_27 : decode cX5_isDigit 27 = .ok (.iload_n 1, 1) := by decide +kernel
theorem dX5_isDigit_28 : decode cX5_isDigit 28 = .ok (.iaload, 1) := by decide +kernel
theorem dX5_isDigit_29 : decode cX5_isDigit 29 = .ok (.bipush 57, 2) := by decide +kernel
theorem dX5_isDigit_31 : decode cX5_isDigit 31 = .ok (.if_icmp .gt 7, 3) := by decide +kernel
theorem dX5_isDigit_34 : decode cX5_isDigit 34 = .ok (.iconst 1, 1) := by decide +kernel
theorem dX5_isDigit_35 : decode cX5_isDigit 35 = .ok (.goto 4, 3) := by decide +kernel
theorem dX5_isDigit_38 : decode cX5_isDigit 38 = .ok (.iconst 0, 1) := by decide +kernel
theorem dX5_isDigit_39 : decode cX5_isDigit 39 = .ok (.ireturn, 1) := by decide +kernel
theorem dX5_readsItem_0 : decode cX5_readsItem 0 = .ok (.aload_n 0, 1) := by decide +kernel
theorem dX5_readsItem_1 : decode cX5_readsItem 1 = .ok (.getfield 33, 3) := by decide +kernel
theorem dX5_readsItem_4 : decode cX5_readsItem 4 = .ok (.aload_n 0, 1) := by decide +kernel
theorem dX5_readsItem_5 : decode cX5_readsItem 5 = .ok (.getfield 39, 3) := by decide +kernel
theorem dX5_readsItem_8 : decode cX5_readsItem 8 = .ok (.iaload, 1) := by decide +kernel
theorem dX5_readsItem_9 : decode cX5_readsItem 9 = .ok (.ineg, 1) := by decide +kernel
theorem dX5_readsItem_10 : decode cX5_readsItem 10 = .ok (.istore_n 1, 1) := by decide +kernel
theorem dX5_readsItem_11 : decode cX5_readsItem 11 = .ok (.aload_n 0, 1) := by decide +kernel
theorem dX5_readsItem_12 : decode cX5_readsItem 12 = .ok (.iload_n 1, 1) := by decide +kernel
theorem dX5_readsItem_13 : decode cX5_readsItem 13 = .ok (.invokevirtual 75, 3) := by decide +kernel
theorem dX5_readsItem_16 : decode cX5_readsItem 16 = .ok (.ifCond .ne 17, 3) := by decide +kernel
theorem dX5_readsItem_19 : decode cX5_readsItem 19 = .ok (.aload_n 0, 1) := by decide +kernel
theorem dX5_readsItem_20 : decode cX5_readsItem 20 = .ok (.aload_n 0, 1) := by decide +kernel
theorem dX5_readsItem_21 : decode cX5_readsItem 21 = .ok (.getfield 36, 3) := by decide +kernel
theorem dX5_readsItem_24 : decode cX5_readsItem 24 = .ok (.aload_n 0, 1) := by decide +kernel
theorem dX5_readsItem_25 : decode cX5_readsItem 25 = .ok (.getfield 39, 3) := by decide +kernel
theorem dX5_readsItem_28 : decode cX5_readsItem 28 = .ok (.iaload, 1) := by decide +kernel
theorem dX5_readsItem_29 : decode cX5_readsItem 29 = .ok (.putfield 45, 3) := by decide +kernel
theorem dX5_readsItem_32 : decode cX5_readsItem 32 = .ok (.return_, 1) := by decide +kernel
theorem dX5_readsItem_33 : decode cX5_readsItem 33 = .ok (.aload_n 0, 1) := by decide +kernel
theorem dX5_readsItem_34 : decode cX5_readsItem 34 = .ok (.dup, 1) := by decide +kernel
theorem dX5_readsItem_35 : decode cX5_readsItem 35 = .ok (.getfield 39, 3) := by decide +kernel
theorem dX5_readsItem_38 : decode cX5_readsItem 38 = .ok (.iconst 1, 1) := by decide +kernel
theorem dX5_readsItem_39 : decode cX5_readsItem 39 = .ok (.iadd, 1) := by decide +kernel
theorem dX5_readsItem_40 : decode cX5_readsItem 40 = .ok (.putfield 39, 3) := by decide +kernel
theorem dX5_readsItem_43 : decode cX5_readsItem 43 = .ok (.iload_n 1, 1) := by decide +kernel
theorem dX5_readsItem_44 : decode cX5_readsItem 44 = .ok (.lookupswitch 72 #[(100, 50), (108, 43), (115, 36)], 36) := by decide +kernel
theorem dX5_readsItem_80 : decode cX5_readsItem 80 = .ok (.aload_n 0, 1) := by decide +kernel
theorem dX5_readsItem_81 : decode cX5_readsItem 81 = .ok (.invokevirtual 78, 3) := by decide +kernel
theorem dX5_readsItem_84 : decode cX5_readsItem 84 = .ok (.goto 67, 3) := by decide +kernel
theorem dX5_readsItem_87 : decode cX5_readsItem 87 = .ok (.aload_n 0, 1) := by decide +kernel
theorem dX5_readsItem_88 : decode cX5_readsItem 88 = .ok (.invokevirtual 81, 3) := by decide +kernel
theorem dX5_readsItem_91 : decode cX5_readsItem 91 = .ok (.goto 60, 3) := by decide +kernel
theorem dX5_readsItem_94 : decode cX5_readsItem 94 = .ok (.aload_n 0, 1) := by decide +kernel
theorem dX5_readsItem_95 : decode cX5_readsItem 95 = .ok (.iconst 1, 1) := by decide +kernel
theorem dX5_readsItem_96 : decode cX5_readsItem 96 = .ok (.putfield 48, 3) := by decide +kernel
theorem dX5_readsItem_99 : decode cX5_readsItem 99 = .ok (.aload_n 0, 1) := by decide +kernel
theorem dX5_readsItem_100 : decode cX5_readsItem 100 = .ok (.getfield 18, 3) := by decide +kernel
theorem dX5_readsItem_103 : decode cX5_readsItem 103 = .ok (.aload_n 0, 1) := by decide +kernel
theorem dX5_readsItem_104 : decode cX5_readsItem 104 = .ok (.iconst 0, 1) := by decide +kernel
theorem dX5_readsItem_105 : decode cX5_readsItem 105 = .ok (.bipush 9, 2) := by decide +kernel
theorem dX5_readsItem_107 : decode cX5_readsItem 107 = .ok (.invokevirtual 84, 3) := by decide +kernel
theorem dX5_readsItem_110 : decode cX5_readsItem 110 = .ok (.putfield 88, 3) := by decide +kernel
theorem dX5_readsItem_113 : decode cX5_readsItem 113 = .ok (.goto 38, 3) := by decide +kernel
theorem dX5_readsItem_116 : decode cX5_readsItem 116 = .ok (.aload_n 0, 1) := by decide +kernel
theorem dX5_readsItem_117 : decode cX5_readsItem 117 = .ok (.getfield 18, 3) := by decide +kernel
theorem dX5_readsItem_120 : decode cX5_readsItem 120 = .ok (.getfield 91, 3) := by decide +kernel
theorem dX5_readsItem_123 : decode cX5_readsItem 123 = .ok (.aload_n 0, 1) := by decide +kernel
theorem dX5_readsItem_124 : decode cX5_readsItem 124 = .ok (.getfield 18, 3) := by decide +kernel
theorem dX5_readsItem_127 : decode cX5_readsItem 127 = .ok (.getfield 94, 3) := by decide +kernel
theorem dX5_readsItem_130 : decode cX5_readsItem 130 = .ok (.aload_n 0, 1) := by decide +kernel
theorem dX5_readsItem_131 : decode cX5_readsItem 131 = .ok (.iconst 0, 1) := by decide +kernel
theorem dX5_readsItem_132 : decode cX5_readsItem 132 = .ok (.bipush 60, 2) := by decide +kernel
theorem dX5_readsItem_134 : decode cX5_readsItem 134 = .ok (.invokevirtual 84, 3) := by decide +kernel
theorem dX5_readsItem_137 : decode cX5_readsItem 137 = .ok (.iastore, 1) := by decide +kernel
theorem dX5_readsItem_138 : decode cX5_readsItem 138 = .ok (.aload_n 0, 1) := by decide +kernel
theorem dX5_readsItem_139 : decode cX5_readsItem 139 = .ok (.getfield 18, 3) := by decide +kernel
theorem dX5_readsItem_142 : decode cX5_readsItem 142 = .ok (.dup, 1) := by decide +kernel
theorem dX5_readsItem_143 : decode cX5_readsItem 143 = .ok (.getfield 94, 3) := by decide +kernel
theorem dX5_readsItem_146 : decode cX5_readsItem 146 = .ok (.iconst 1, 1) := by decide +kernel
theorem dX5_readsItem_147 : decode cX5_readsItem 147 = .ok (.iadd, 1) := by decide +kernel
theorem dX5_readsItem_148 : decode cX5_readsItem 148 = .ok (.putfield 94, 3) := by decide +kernel
theorem dX5_readsItem_151 : decode cX5_readsItem 151 = .ok (.aload_n 0, 1) := by decide +kernel
theorem dX5_readsItem_152 : decode cX5_readsItem 152 = .ok (.invokevirtual 97, 3) := by decide +kernel
theorem dX5_readsItem_155 : decode cX5_readsItem 155 = .ok (.aload_n 0, 1) := by decide +kernel
theorem dX5_readsItem_156 : decode cX5_readsItem 156 = .ok (.dup, 1) := by decide +kernel
theorem dX5_readsItem_157 : decode cX5_readsItem 157 = .ok (.getfield 42, 3) := by decide +kernel
theorem dX5_readsItem_160 : decode cX5_readsItem 160 = .ok (.iconst 1, 1) := by decide +kernel
theorem dX5_readsItem_161 : decode cX5_readsItem 161 = .ok (.iadd, 1) := by decide +kernel
theorem dX5_readsItem_162 : decode cX5_readsItem 162 = .ok (.putfield 42, 3) := by decide +kernel
theorem dX5_readsItem_165 : decode cX5_readsItem 165 = .ok (.return_, 1) := by decide +kernel
theorem dX5_mayBegin_0 : decode cX5_mayBegin 0 = .ok (.iload_n 1, 1) := by decide +kernel
theorem dX5_mayBegin_1 : decode cX5_mayBegin 1 = .ok (.lookupswitch 118 #[(100, 87), (108, 70), (112, 100), (115, 43)], 43) := by decide +kernel
theorem dX5_mayBegin_44 : decode cX5_mayBegin 44 = .ok (.aload_n 0, 1) := by decide +kernel
theorem dX5_mayBegin_45 : decode cX5_mayBegin 45 = .ok (.getfield 18, 3) := by decide +kernel
theorem dX5_mayBegin_48 : decode cX5_mayBegin 48 = .ok (.getfield 100, 3) := by decide +kernel
theorem dX5_mayBegin_51 : decode cX5_mayBegin 51 = .ok (.ifCond .ne 18, 3) := by decide +kernel
theorem dX5_mayBegin_54 : decode cX5_mayBegin 54 = .ok (.aload_n 0, 1) := by decide +kernel
theorem dX5_mayBegin_55 : decode cX5_mayBegin 55 = .ok (.getfield 18, 3) := by decide +kernel
theorem dX5_mayBegin_58 : decode cX5_mayBegin 58 = .ok (.getfield 103, 3) := by decide +kernel
theorem dX5_mayBegin_61 : decode cX5_mayBegin 61 = .ok (.iconst 4, 1) := by decide +kernel
theorem dX5_mayBegin_62 : decode cX5_mayBegin 62 = .ok (.if_icmp .ge 7, 3) := by decide +kernel
theorem dX5_mayBegin_65 : decode cX5_mayBegin 65 = .ok (.iconst 1, 1) := by decide +kernel
theorem dX5_mayBegin_66 : decode cX5_mayBegin 66 = .ok (.goto 4, 3) := by decide +kernel
theorem dX5_mayBegin_69 : decode cX5_mayBegin 69 = .ok (.iconst 0, 1) := by decide +kernel
theorem dX5_mayBegin_70 : decode cX5_mayBegin 70 = .ok (.ireturn, 1) := by decide +kernel
theorem dX5_mayBegin_71 : decode cX5_mayBegin 71 = .ok (.aload_n 0, 1) := by decide +kernel
theorem dX5_mayBegin_72 : decode cX5_mayBegin 72 = .ok (.getfield 18, 3) := by decide +kernel
theorem dX5_mayBegin_75 : decode cX5_mayBegin 75 = .ok (.getfield 100, 3) := by decide +kernel
theorem dX5_mayBegin_78 : decode cX5_mayBegin 78 = .ok (.iconst 4, 1) := by decide +kernel
theorem dX5_mayBegin_79 : decode cX5_mayBegin 79 = .ok (.if_icmp .ge 7, 3) := by decide +kernel
theorem dX5_mayBegin_82 : decode cX5_mayBegin 82 = .ok (.iconst 1, 1) := by decide +kernel
theorem dX5_mayBegin_83 : decode cX5_mayBegin 83 = .ok (.goto 4, 3) := by decide +kernel
theorem dX5_mayBegin_86 : decode cX5_mayBegin 86 = .ok (.iconst 0, 1) := by decide +kernel
theorem dX5_mayBegin_87 : decode cX5_mayBegin 87 = .ok (.ireturn, 1) := by decide +kernel
theorem dX5_mayBegin_88 : decode cX5_mayBegin 88 = .ok (.aload_n 0, 1) := by decide +kernel
theorem dX5_mayBegin_89 : decode cX5_mayBegin 89 = .ok (.getfield 48, 3) := by decide +kernel
theorem dX5_mayBegin_92 : decode cX5_mayBegin 92 = .ok (.ifCond .ne 7, 3) := by decide +kernel
theorem dX5_mayBegin_95 : decode cX5_mayBegin 95 = .ok (.iconst 1, 1) := by decide +kernel
theorem dX5_mayBegin_96 : decode cX5_mayBegin 96 = .ok (.goto 4, 3) := by decide +kernel
theorem dX5_mayBegin_99 : decode cX5_mayBegin 99 = .ok (.iconst 0, 1) := by decide +kernel
theorem dX5_mayBegin_100 : decode cX5_mayBegin 100 = .ok (.ireturn, 1) := by decide +kernel
theorem dX5_mayBegin_101 : decode cX5_mayBegin 101 = .ok (.aload_n 0, 1) := by decide +kernel
theorem dX5_mayBegin_102 : decode cX5_mayBegin 102 = .ok (.getfield 18, 3) := by decide +kernel
theorem dX5_mayBegin_105 : decode cX5_mayBegin 105 = .ok (.getfield 94, 3) := by decide +kernel
theorem dX5_mayBegin_108 : decode cX5_mayBegin 108 = .ok (.bipush 8, 2) := by decide +kernel
theorem dX5_mayBegin_110 : decode cX5_mayBegin 110 = .ok (.if_icmp .ge 7, 3) := by decide +kernel
theorem dX5_mayBegin_113 : decode cX5_mayBegin 113 = .ok (.iconst 1, 1) := by decide +kernel
theorem dX5_mayBegin_114 : decode cX5_mayBegin 114 = .ok (.goto 4, 3) := by decide +kernel
theorem dX5_mayBegin_117 : decode cX5_mayBegin 117 = .ok (.iconst 0, 1) := by decide +kernel
theorem dX5_mayBegin_118 : decode cX5_mayBegin 118 = .ok (.ireturn, 1) := by decide +kernel
theorem dX5_mayBegin_119 : decode cX5_mayBegin 119 = .ok (.iconst 0, 1) := by decide +kernel
theorem dX5_mayBegin_120 : decode cX5_mayBegin 120 = .ok (.ireturn, 1) := by decide +kernel
theorem dX5_readsScale_0 : decode cX5_readsScale 0 = .ok (.aload_n 0, 1) := by decide +kernel
theorem dX5_readsScale_1 : decode cX5_readsScale 1 = .ok (.getfield 18, 3) := by decide +kernel
theorem dX5_readsScale_4 : decode cX5_readsScale 4 = .ok (.getfield 103, 3) := by decide +kernel
theorem dX5_readsScale_7 : decode cX5_readsScale 7 = .ok (.istore_n 1, 1) := by decide +kernel
theorem dX5_readsScale_8 : decode cX5_readsScale 8 = .ok (.aload_n 0, 1) := by decide +kernel
theorem dX5_readsScale_9 : decode cX5_readsScale 9 = .ok (.getfield 25, 3) := by decide +kernel
theorem dX5_readsScale_12 : decode cX5_readsScale 12 = .ok (.getfield 106, 3) := by decide +kernel
theorem dX5_readsScale_15 : decode cX5_readsScale 15 = .ok (.iload_n 1, 1) := by decide +kernel
theorem dX5_readsScale_16 : decode cX5_readsScale 16 = .ok (.aload_n 0, 1) := by decide +kernel
theorem dX5_readsScale_17 : decode cX5_readsScale 17 = .ok (.iconst 0, 1) := by decide +kernel
theorem dX5_readsScale_18 : decode cX5_readsScale 18 = .ok (.iconst 3, 1) := by decide +kernel
theorem dX5_readsScale_19 : decode cX5_readsScale 19 = .ok (.invokevirtual 84, 3) := by decide +kernel
theorem dX5_readsScale_22 : decode cX5_readsScale 22 = .ok (.iastore, 1) := by decide +kernel
theorem dX5_readsScale_23 : decode cX5_readsScale 23 = .ok (.aload_n 0, 1) := by decide +kernel
theorem dX5_readsScale_24 : decode cX5_readsScale 24 = .ok (.getfield 18, 3) := by decide +kernel
theorem dX5_readsScale_27 : decode cX5_readsScale 27 = .ok (.getfield 109, 3) := by decide +kernel
theorem dX5_readsScale_30 : decode cX5_readsScale 30 = .ok (.iload_n 1, 1) := by decide +kernel
theorem dX5_readsScale_31 : decode cX5_readsScale 31 = .ok (.aload_n 0, 1) := by decide +kernel
theorem dX5_readsScale_32 : decode cX5_readsScale 32 = .ok (.iconst 2, 1) := by decide +kernel
theorem dX5_readsScale_33 : decode cX5_readsScale 33 = .ok (.bipush 30, 2) := by decide +kernel
theorem dX5_readsScale_35 : decode cX5_readsScale 35 = .ok (.invokevirtual 84, 3) := by decide +kernel
theorem dX5_readsScale_38 : decode cX5_readsScale 38 = .ok (.iastore, 1) := by decide +kernel
theorem dX5_readsScale_39 : decode cX5_readsScale 39 = .ok (.aload_n 0, 1) := by decide +kernel
theorem dX5_readsScale_40 : decode cX5_readsScale 40 = .ok (.getfield 25, 3) := by decide +kernel
theorem dX5_readsScale_43 : decode cX5_readsScale 43 = .ok (.getfield 112, 3) := by decide +kernel
theorem dX5_readsScale_46 : decode cX5_readsScale 46 = .ok (.iload_n 1, 1) := by decide +kernel
theorem dX5_readsScale_47 : decode cX5_readsScale 47 = .ok (.aload_n 0, 1) := by decide +kernel
theorem dX5_readsScale_48 : decode cX5_readsScale 48 = .ok (.iconst 1, 1) := by decide +kernel
theorem dX5_readsScale_49 : decode cX5_readsScale 49 = .ok (.aload_n 0, 1) := by decide +kernel
theorem dX5_readsScale_50 : decode cX5_readsScale 50 = .ok (.getfield 18, 3) := by decide +kernel
theorem dX5_readsScale_53 : decode cX5_readsScale 53 = .ok (.getfield 109, 3) := by decide +kernel
theorem dX5_readsScale_56 : decode cX5_readsScale 56 = .ok (.iload_n 1, 1) := by decide +kernel
theorem dX5_readsScale_57 : decode cX5_readsScale 57 = .ok (.iaload, 1) := by decide +kernel
theorem dX5_readsScale_58 : decode cX5_readsScale 58 = .ok (.invokevirtual 84, 3) := by decide +kernel
theorem dX5_readsScale_61 : decode cX5_readsScale 61 = .ok (.iastore, 1) := by decide +kernel
theorem dX5_readsScale_62 : decode cX5_readsScale 62 = .ok (.aload_n 0, 1) := by decide +kernel
theorem dX5_readsScale_63 : decode cX5_readsScale 63 = .ok (.getfield 18, 3) := by decide +kernel
theorem dX5_readsScale_66 : decode cX5_readsScale 66 = .ok (.dup, 1) := by decide +kernel
theorem dX5_readsScale_67 : decode cX5_readsScale 67 = .ok (.getfield 103, 3) := by decide +kernel
theorem dX5_readsScale_70 : decode cX5_readsScale 70 = .ok (.iconst 1, 1) := by decide +kernel
theorem dX5_readsScale_71 : decode cX5_readsScale 71 = .ok (.iadd, 1) := by decide +kernel
theorem dX5_readsScale_72 : decode cX5_readsScale 72 = .ok (.putfield 103, 3) := by decide +kernel
theorem dX5_readsScale_75 : decode cX5_readsScale 75 = .ok (.return_, 1) := by decide +kernel
theorem dX5_readsLife_0 : decode cX5_readsLife 0 = .ok (.iconst 0, 1) := by decide +kernel
theorem dX5_readsLife_1 : decode cX5_readsLife 1 = .ok (.istore_n 1, 1) := by decide +kernel
theorem dX5_readsLife_2 : decode cX5_readsLife 2 = .ok (.iload_n 1, 1) := by decide +kernel
theorem dX5_readsLife_3 : decode cX5_readsLife 3 = .ok (.aload_n 0, 1) := by decide +kernel
theorem dX5_readsLife_4 : decode cX5_readsLife 4 = .ok (.getfield 18, 3) := by decide +kernel
theorem dX5_readsLife_7 : decode cX5_readsLife 7 = .ok (.getfield 103, 3) := by decide +kernel
theorem dX5_readsLife_10 : decode cX5_readsLife 10 = .ok (.if_icmp .ge 62, 3) := by decide +kernel
theorem dX5_readsLife_13 : decode cX5_readsLife 13 = .ok (.aload_n 0, 1) := by decide +kernel
theorem dX5_readsLife_14 : decode cX5_readsLife 14 = .ok (.getfield 18, 3) := by decide +kernel
theorem dX5_readsLife_17 : decode cX5_readsLife 17 = .ok (.getfield 100, 3) := by decide +kernel
theorem dX5_readsLife_20 : decode cX5_readsLife 20 = .ok (.iload_n 1, 1) := by decide +kernel
theorem dX5_readsLife_21 : decode cX5_readsLife 21 = .ok (.invokestatic 115, 3) := by decide +kernel
theorem dX5_readsLife_24 : decode cX5_readsLife 24 = .ok (.istore_n 2, 1) := by decide +kernel
theorem dX5_readsLife_25 : decode cX5_readsLife 25 = .ok (.aload_n 0, 1) := by decide +kernel
theorem dX5_readsLife_26 : decode cX5_readsLife 26 = .ok (.getfield 25, 3) := by decide +kernel
theorem dX5_readsLife_29 : decode cX5_readsLife 29 = .ok (.getfield 118, 3) := by decide +kernel
theorem dX5_readsLife_32 : decode cX5_readsLife 32 = .ok (.iload_n 2, 1) := by decide +kernel
theorem dX5_readsLife_33 : decode cX5_readsLife 33 = .ok (.aload_n 0, 1) := by decide +kernel
theorem dX5_readsLife_34 : decode cX5_readsLife 34 = .ok (.iconst 0, 1) := by decide +kernel
theorem dX5_readsLife_35 : decode cX5_readsLife 35 = .ok (.aload_n 0, 1) := by decide +kernel
theorem dX5_readsLife_36 : decode cX5_readsLife 36 = .ok (.getfield 18, 3) := by decide +kernel
theorem dX5_readsLife_39 : decode cX5_readsLife 39 = .ok (.getfield 109, 3) := by decide +kernel
theorem dX5_readsLife_42 : decode cX5_readsLife 42 = .ok (.iload_n 1, 1) := by decide +kernel
theorem dX5_readsLife_43 : decode cX5_readsLife 43 = .ok (.iaload, 1) := by decide +kernel
theorem dX5_readsLife_44 : decode cX5_readsLife 44 = .ok (.invokevirtual 84, 3) := by decide +kernel
theorem dX5_readsLife_47 : decode cX5_readsLife 47 = .ok (.iastore, 1) := by decide +kernel
theorem dX5_readsLife_48 : decode cX5_readsLife 48 = .ok (.aload_n 0, 1) := by decide +kernel
theorem dX5_readsLife_49 : decode cX5_readsLife 49 = .ok (.getfield 18, 3) := by decide +kernel
theorem dX5_readsLife_52 : decode cX5_readsLife 52 = .ok (.getfield 121, 3) := by decide +kernel
theorem dX5_readsLife_55 : decode cX5_readsLife 55 = .ok (.iload_n 2, 1) := by decide +kernel
theorem dX5_readsLife_56 : decode cX5_readsLife 56 = .ok (.aload_n 0, 1) := by decide +kernel
theorem dX5_readsLife_57 : decode cX5_readsLife 57 = .ok (.iconst 0, 1) := by decide +kernel
theorem dX5_readsLife_58 : decode cX5_readsLife 58 = .ok (.bipush 6, 2) := by decide +kernel
theorem dX5_readsLife_60 : decode cX5_readsLife 60 = .ok (.invokevirtual 84, 3) := by decide +kernel
theorem dX5_readsLife_63 : decode cX5_readsLife 63 = .ok (.iconst 3, 1) := by decide +kernel
theorem dX5_readsLife_64 : decode cX5_readsLife 64 = .ok (.isub, 1) := by decide +kernel
theorem dX5_readsLife_65 : decode cX5_readsLife 65 = .ok (.iastore, 1) := by decide +kernel
theorem dX5_readsLife_66 : decode cX5_readsLife 66 = .ok (.iinc 1 1, 3) := by decide +kernel
theorem dX5_readsLife_69 : decode cX5_readsLife 69 = .ok (.goto (-67), 3) := by decide +kernel
theorem dX5_readsLife_72 : decode cX5_readsLife 72 = .ok (.aload_n 0, 1) := by decide +kernel
theorem dX5_readsLife_73 : decode cX5_readsLife 73 = .ok (.getfield 18, 3) := by decide +kernel
theorem dX5_readsLife_76 : decode cX5_readsLife 76 = .ok (.dup, 1) := by decide +kernel
theorem dX5_readsLife_77 : decode cX5_readsLife 77 = .ok (.getfield 100, 3) := by decide +kernel
theorem dX5_readsLife_80 : decode cX5_readsLife 80 = .ok (.iconst 1, 1) := by decide +kernel
theorem dX5_readsLife_81 : decode cX5_readsLife 81 = .ok (.iadd, 1) := by decide +kernel
theorem dX5_readsLife_82 : decode cX5_readsLife 82 = .ok (.putfield 100, 3) := by decide +kernel
theorem dX5_readsLife_85 : decode cX5_readsLife 85 = .ok (.return_, 1) := by decide +kernel
theorem dX5_takesNumber_0 : decode cX5_takesNumber 0 = .ok (.aload_n 0, 1) := by decide +kernel
theorem dX5_takesNumber_1 : decode cX5_takesNumber 1 = .ok (.getfield 33, 3) := by decide +kernel
theorem dX5_takesNumber_4 : decode cX5_takesNumber 4 = .ok (.aload_n 0, 1) := by decide +kernel
theorem dX5_takesNumber_5 : decode cX5_takesNumber 5 = .ok (.getfield 39, 3) := by decide +kernel
theorem dX5_takesNumber_8 : decode cX5_takesNumber 8 = .ok (.iaload, 1) := by decide +kernel
theorem dX5_takesNumber_9 : decode cX5_takesNumber 9 = .ok (.istore_n 3, 1) := by decide +kernel
theorem dX5_takesNumber_10 : decode cX5_takesNumber 10 = .ok (.aload_n 0, 1) := by decide +kernel
theorem dX5_takesNumber_11 : decode cX5_takesNumber 11 = .ok (.iload_n 3, 1) := by decide +kernel
theorem dX5_takesNumber_12 : decode cX5_takesNumber 12 = .ok (.iload_n 1, 1) := by decide +kernel
theorem dX5_takesNumber_13 : decode cX5_takesNumber 13 = .ok (.iload_n 2, 1) := by decide +kernel
theorem dX5_takesNumber_14 : decode cX5_takesNumber 14 = .ok (.invokestatic 124, 3) := by decide +kernel
theorem dX5_takesNumber_17 : decode cX5_takesNumber 17 = .ok (.invokevirtual 128, 3) := by decide +kernel
theorem dX5_takesNumber_20 : decode cX5_takesNumber 20 = .ok (.aload_n 0, 1) := by decide +kernel
theorem dX5_takesNumber_21 : decode cX5_takesNumber 21 = .ok (.getfield 45, 3) := by decide +kernel
theorem dX5_takesNumber_24 : decode cX5_takesNumber 24 = .ok (.iconst (-1), 1) := by decide +kernel
theorem dX5_takesNumber_25 : decode cX5_takesNumber 25 = .ok (.if_icmp .ne 7, 3) := by decide +kernel
theorem dX5_takesNumber_28 : decode cX5_takesNumber 28 = .ok (.iload_n 3, 1) := by decide +kernel
theorem dX5_takesNumber_29 : decode cX5_takesNumber 29 = .ok (.goto 4, 3) := by decide +kernel
theorem dX5_takesNumber_32 : decode cX5_takesNumber 32 = .ok (.iload_n 1, 1) := by decide +kernel
theorem dX5_takesNumber_33 : decode cX5_takesNumber 33 = .ok (.ireturn, 1) := by decide +kernel
theorem dX5_takesSemicolon_0 : decode cX5_takesSemicolon 0 = .ok (.aload_n 0, 1) := by decide +kernel
theorem dX5_takesSemicolon_1 : decode cX5_takesSemicolon 1 = .ok (.aload_n 0, 1) := by decide +kernel
theorem dX5_takesSemicolon_2 : decode cX5_takesSemicolon 2 = .ok (.getfield 33, 3) := by decide +kernel
theorem dX5_takesSemicolon_5 : decode cX5_takesSemicolon 5 = .ok (.aload_n 0, 1) := by decide +kernel
theorem dX5_takesSemicolon_6 : decode cX5_takesSemicolon 6 = .ok (.getfield 39, 3) := by decide +kernel
theorem dX5_takesSemicolon_9 : decode cX5_takesSemicolon 9 = .ok (.iaload, 1) := by decide +kernel
theorem dX5_takesSemicolon_10 : decode cX5_takesSemicolon 10 = .ok (.bipush (-59), 2) := by decide +kernel
theorem dX5_takesSemicolon_12 : decode cX5_takesSemicolon 12 = .ok (.if_icmp .ne 7, 3) := by decide +kernel
theorem dX5_takesSemicolon_15 : decode cX5_takesSemicolon 15 = .ok (.iconst 1, 1) := by decide +kernel
theorem dX5_takesSemicolon_16 : decode cX5_takesSemicolon 16 = .ok (.goto 4, 3) := by decide +kernel
theorem dX5_takesSemicolon_19 : decode cX5_takesSemicolon 19 = .ok (.iconst 0, 1) := by decide +kernel
theorem dX5_takesSemicolon_20 : decode cX5_takesSemicolon 20 = .ok (.invokevirtual 128, 3) := by decide +kernel
theorem dX5_takesSemicolon_23 : decode cX5_takesSemicolon 23 = .ok (.return_, 1) := by decide +kernel
theorem dX5_takes_0 : decode cX5_takes 0 = .ok (.aload_n 0, 1) := by decide +kernel
theorem dX5_takes_1 : decode cX5_takes 1 = .ok (.getfield 45, 3) := by decide +kernel
theorem dX5_takes_4 : decode cX5_takes 4 = .ok (.iconst (-1), 1) := by decide +kernel
theorem dX5_takes_5 : decode cX5_takes 5 = .ok (.if_icmp .eq 4, 3) := by decide +kernel
theorem dX5_takes_8 : decode cX5_takes 8 = .ok (.return_, 1) := by decide +kernel
theorem dX5_takes_9 : decode cX5_takes 9 = .ok (.iload_n 1, 1) := by decide +kernel
theorem dX5_takes_10 : decode cX5_takes 10 = .ok (.ifCond .eq 16, 3) := by decide +kernel
theorem dX5_takes_13 : decode cX5_takes 13 = .ok (.aload_n 0, 1) := by decide +kernel
theorem dX5_takes_14 : decode cX5_takes 14 = .ok (.dup, 1) := by decide +kernel
theorem dX5_takes_15 : decode cX5_takes 15 = .ok (.getfield 39, 3) := by decide +kernel
theorem dX5_takes_18 : decode cX5_takes 18 = .ok (.iconst 1, 1) := by decide +kernel
theorem dX5_takes_19 : decode cX5_takes 19 = .ok (.iadd, 1) := by decide +kernel
theorem dX5_takes_20 : decode cX5_takes 20 = .ok (.putfield 39, 3) := by decide +kernel
theorem dX5_takes_23 : decode cX5_takes 23 = .ok (.goto 16, 3) := by decide +kernel
theorem dX5_takes_26 : decode cX5_takes 26 = .ok (.aload_n 0, 1) := by decide +kernel
theorem dX5_takes_27 : decode cX5_takes 27 = .ok (.aload_n 0, 1) := by decide +kernel
theorem dX5_takes_28 : decode cX5_takes 28 = .ok (.getfield 36, 3) := by decide +kernel
theorem dX5_takes_31 : decode cX5_takes 31 = .ok (.aload_n 0, 1) := by decide +kernel
theorem dX5_takes_32 : decode cX5_takes 32 = .ok (.getfield 39, 3) := by decide +kernel
theorem dX5_takes_35 : decode cX5_takes 35 = .ok (.iaload, 1) := by decide +kernel
theorem dX5_takes_36 : decode cX5_takes 36 = .ok (.putfield 45, 3) := by decide +kernel
theorem dX5_takes_39 : decode cX5_takes 39 = .ok (.return_, 1) := by decide +kernel
theorem dX6_init_0 : decode cX6_init 0 = .ok (.aload_n 0, 1) := by decide +kernel
theorem dX6_init_1 : decode cX6_init 1 = .ok (.invokespecial 1, 3) := by decide +kernel
theorem dX6_init_4 : decode cX6_init 4 = .ok (.aload_n 0, 1) := by decide +kernel
theorem dX6_init_5 : decode cX6_init 5 = .ok (.new 7, 3) := by decide +kernel
theorem dX6_init_8 : decode cX6_init 8 = .ok (.dup, 1) := by decide +kernel
theorem dX6_init_9 : decode cX6_init 9 = .ok (.invokespecial 9, 3) := by decide +kernel
theorem dX6_init_12 : decode cX6_init 12 = .ok (.putfield 10, 3) := by decide +kernel
theorem dX6_init_15 : decode cX6_init 15 = .ok (.aload_n 0, 1) := by decide +kernel
theorem dX6_init_16 : decode cX6_init 16 = .ok (.new 16, 3) := by decide +kernel
theorem dX6_init_19 : decode cX6_init 19 = .ok (.dup, 1) := by decide +kernel
theorem dX6_init_20 : decode cX6_init 20 = .ok (.invokespecial 18, 3) := by decide +kernel
theorem dX6_init_23 : decode cX6_init 23 = .ok (.putfield 19, 3) := by decide +kernel
theorem dX6_init_26 : decode cX6_init 26 = .ok (.aload_n 0, 1) := by decide +kernel
theorem dX6_init_27 : decode cX6_init 27 = .ok (.new 23, 3) := by decide +kernel
theorem dX6_init_30 : decode cX6_init 30 = .ok (.dup, 1) := by decide +kernel
theorem dX6_init_31 : decode cX6_init 31 = .ok (.invokespecial 25, 3) := by decide +kernel
theorem dX6_init_34 : decode cX6_init 34 = .ok (.putfield 26, 3) := by decide +kernel
theorem dX6_init_37 : decode cX6_init 37 = .ok (.aload_n 0, 1) := by decide +kernel
theorem dX6_init_38 : decode cX6_init 38 = .ok (.new 30, 3) := by decide +kernel
theorem dX6_init_41 : decode cX6_init 41 = .ok (.dup, 1) := by decide +kernel
theorem dX6_init_42 : decode cX6_init 42 = .ok (.invokespecial 32, 3) := by decide +kernel
theorem dX6_init_45 : decode cX6_init 45 = .ok (.putfield 33, 3) := by decide +kernel
theorem dX6_init_48 : decode cX6_init 48 = .ok (.aload_n 0, 1) := by decide +kernel
theorem dX6_init_49 : decode cX6_init 49 = .ok (.iconst 2, 1) := by decide +kernel
theorem dX6_init_50 : decode cX6_init 50 = .ok (.anewarray 23, 3) := by decide +kernel
theorem dX6_init_53 : decode cX6_init 53 = .ok (.putfield 37, 3) := by decide +kernel
theorem dX6_init_56 : decode cX6_init 56 = .ok (.aload_n 0, 1) := by decide +kernel
theorem dX6_init_57 : decode cX6_init 57 = .ok (.iconst 2, 1) := by decide +kernel
theorem dX6_init_58 : decode cX6_init 58 = .ok (.newarray .boolean, 2) := by decide +kernel
theorem dX6_init_60 : decode cX6_init 60 = .ok (.putfield 41, 3) := by decide +kernel
theorem dX6_init_63 : decode cX6_init 63 = .ok (.aload_n 0, 1) := by decide +kernel
theorem dX6_init_64 : decode cX6_init 64 = .ok (.new 45, 3) := by decide +kernel
theorem dX6_init_67 : decode cX6_init 67 = .ok (.dup, 1) := by decide +kernel
theorem dX6_init_68 : decode cX6_init 68 = .ok (.invokespecial 47, 3) := by decide +kernel
theorem dX6_init_71 : decode cX6_init 71 = .ok (.putfield 48, 3) := by decide +kernel
theorem dX6_init_74 : decode cX6_init 74 = .ok (.aload_n 0, 1) := by decide +kernel
theorem dX6_init_75 : decode cX6_init 75 = .ok (.new 52, 3) := by decide +kernel
theorem dX6_init_78 : decode cX6_init 78 = .ok (.dup, 1) := by decide +kernel
theorem dX6_init_79 : decode cX6_init 79 = .ok (.invokespecial 54, 3) := by decide +kernel
theorem dX6_init_82 : decode cX6_init 82 = .ok (.putfield 55, 3) := by decide +kernel
theorem dX6_init_85 : decode cX6_init 85 = .ok (.aload_n 0, 1) := by decide +kernel
theorem dX6_init_86 : decode cX6_init 86 = .ok (.bipush 8, 2) := by decide +kernel
theorem dX6_init_88 : decode cX6_init 88 = .ok (.newarray .int, 2) := by decide +kernel
theorem dX6_init_90 : decode cX6_init 90 = .ok (.putfield 59, 3) := by decide +kernel
theorem dX6_init_93 : decode cX6_init 93 = .ok (.aload_n 0, 1) := by decide +kernel
theorem dX6_init_94 : decode cX6_init 94 = .ok (.bipush 100, 2) := by decide +kernel
theorem dX6_init_96 : decode cX6_init 96 = .ok (.newarray .int, 2) := by decide +kernel
theorem dX6_init_98 : decode cX6_init 98 = .ok (.putfield 63, 3) := by decide +kernel
theorem dX6_init_101 : decode cX6_init 101 = .ok (.aload_n 0, 1) := by decide +kernel
theorem dX6_init_102 : decode cX6_init 102 = .ok (.lconst 0, 1) := by decide +kernel
theorem dX6_init_103 : decode cX6_init 103 = .ok (.putfield 66, 3) := by decide +kernel
theorem dX6_init_106 : decode cX6_init 106 = .ok (.iconst 0, 1) := by decide +kernel
theorem dX6_init_107 : decode cX6_init 107 = .ok (.istore_n 1, 1) := by decide +kernel
theorem dX6_init_108 : decode cX6_init 108 = .ok (.iload_n 1, 1) := by decide +kernel
theorem dX6_init_109 : decode cX6_init 109 = .ok (.iconst 2, 1) := by decide +kernel
theorem dX6_init_110 : decode cX6_init 110 = .ok (.if_icmp .ge 22, 3) := by decide +kernel
theorem dX6_init_113 : decode cX6_init 113 = .ok (.aload_n 0, 1) := by decide +kernel
theorem dX6_init_114 : decode cX6_init 114 = .ok (.getfield 37, 3) := by decide +kernel
theorem dX6_init_117 : decode cX6_init 117 = .ok (.iload_n 1, 1) := by decide +kernel
theorem dX6_init_118 : decode cX6_init 118 = .ok (.new 23, 3) := by decide +kernel
theorem dX6_init_121 : decode cX6_init 121 = .ok (.dup, 1) := by decide +kernel
theorem dX6_init_122 : decode cX6_init 122 = .ok (.invokespecial 25, 3) := by decide +kernel
theorem dX6_init_125 : decode cX6_init 125 = .ok (.aastore, 1) := by decide +kernel
theorem dX6_init_126 : decode cX6_init 126 = .ok (.iinc 1 1, 3) := by decide +kernel
theorem dX6_init_129 : decode cX6_init 129 = .ok (.goto (-21), 3) := by decide +kernel
theorem dX6_init_132 : decode cX6_init 132 = .ok (.return_, 1) := by decide +kernel
theorem dX6_type_0 : decode cX6_type 0 = .ok (.iload_n 1, 1) := by decide +kernel
theorem dX6_type_1 : decode cX6_type 1 = .ok (.iconst 0, 1) := by decide +kernel
theorem dX6_type_2 : decode cX6_type 2 = .ok (.sipush 255, 3) := by decide +kernel
theorem dX6_type_5 : decode cX6_type 5 = .ok (.invokestatic 70, 3) := by decide +kernel
theorem dX6_type_8 : decode cX6_type 8 = .ok (.ifCond .ne 5, 3) := by decide +kernel
theorem dX6_type_11 : decode cX6_type 11 = .ok (.iconst (-1), 1) := by decide +kernel
theorem dX6_type_12 : decode cX6_type 12 = .ok (.ireturn, 1) := by decide +kernel
theorem dX6_type_13 : decode cX6_type 13 = .ok (.aload_n 0, 1) := by decide +kernel
theorem dX6_type_14 : decode cX6_type 14 = .ok (.getfield 10, 3) := by decide +kernel
theorem dX6_type_17 : decode cX6_type 17 = .ok (.iload_n 1, 1) := by decide +kernel
theorem dX6_type_18 : decode cX6_type 18 = .ok (.invokevirtual 74, 3) := by decide +kernel
theorem dX6_type_21 : decode cX6_type 21 = .ok (.ifCond .eq 13, 3) := by decide +kernel
theorem dX6_type_24 : decode cX6_type 24 = .ok (.aload_n 0, 1) := by decide +kernel
theorem dX6_type_25 : decode cX6_type 25 = .ok (.getfield 10, 3) := by decide +kernel
theorem dX6_type_28 : decode cX6_type 28 = .ok (.getfield 78, 3) := by decide +kernel
theorem dX6_type_31 : decode cX6_type 31 = .ok (.goto 5, 3) := by decide +kernel
theorem dX6_type_34 : decode cX6_type 34 = .ok (.bipush (-3), 2) := by decide +kernel
theorem dX6_type_36 : decode cX6_type 36 = .ok (.ireturn, 1) := by decide +kernel
theorem dX6_clear_0 : decode cX6_clear 0 = .ok (.aload_n 0, 1) := by decide +kernel
theorem dX6_clear_1 : decode cX6_clear 1 = .ok (.getfield 10, 3) := by decide +kernel
theorem dX6_clear_4 : decode cX6_clear 4 = .ok (.getfield 78, 3) := by decide +kernel
theorem dX6_clear_7 : decode cX6_clear 7 = .ok (.istore_n 1, 1) := by decide +kernel
theorem dX6_clear_8 : decode cX6_clear 8 = .ok (.aload_n 0, 1) := by decide +kernel
theorem dX6_clear_9 : decode cX6_clear 9 = .ok (.getfield 10, 3) := by decide +kernel
theorem dX6_clear_12 : decode cX6_clear 12 = .ok (.iconst 0, 1) := by decide +kernel
theorem dX6_clear_13 : decode cX6_clear 13 = .ok (.putfield 78, 3) := by decide +kernel
theorem dX6_clear_16 : decode cX6_clear 16 = .ok (.iload_n 1, 1) := by decide +kernel
theorem dX6_clear_17 : decode cX6_clear 17 = .ok (.ireturn, 1) := by decide +kernel
theorem dX6_land_0 : decode cX6_land 0 = .ok (.aload_n 0, 1) := by decide +kernel
theorem dX6_land_1 : decode cX6_land 1 = .ok (.getfield 10, 3) := by decide +kernel
theorem dX6_land_4 : decode cX6_land 4 = .ok (.invokevirtual 82, 3) := by decide +kernel
theorem dX6_land_7 : decode cX6_land 7 = .ok (.istore_n 1, 1) := by decide +kernel
theorem dX6_land_8 : decode cX6_land 8 = .ok (.iload_n 1, 1) := by decide +kernel
theorem dX6_land_9 : decode cX6_land 9 = .ok (.ifCond .ge 5, 3) := by decide +kernel
theorem dX6_land_12 : decode cX6_land 12 = .ok (.iload_n 1, 1) := by decide +kernel
theorem dX6_land_13 : decode cX6_land 13 = .ok (.ireturn, 1) := by decide +kernel
theorem dX6_land_14 : decode cX6_land 14 = .ok (.aload_n 0, 1) := by decide +kernel
theorem dX6_land_15 : decode cX6_land 15 = .ok (.getfield 19, 3) := by decide +kernel
theorem dX6_land_18 : decode cX6_land 18 = .ok (.aload_n 0, 1) := by decide +kernel
theorem dX6_land_19 : decode cX6_land 19 = .ok (.getfield 10, 3) := by decide +kernel
theorem dX6_land_22 : decode cX6_land 22 = .ok (.getfield 86, 3) := by decide +kernel
theorem dX6_land_25 : decode cX6_land 25 = .ok (.invokevirtual 89, 3) := by decide +kernel
theorem dX6_land_28 : decode cX6_land 28 = .ok (.aload_n 0, 1) := by decide +kernel
theorem dX6_land_29 : decode cX6_land 29 = .ok (.getfield 26, 3) := by decide +kernel
theorem dX6_land_32 : decode cX6_land 32 = .ok (.aload_n 0, 1) := by decide +kernel
theorem dX6_land_33 : decode cX6_land 33 = .ok (.getfield 10, 3) := by decide +kernel
theorem dX6_land_36 : decode cX6_land 36 = .ok (.getfield 93, 3) := by decide +kernel
theorem dX6_land_39 : decode cX6_land 39 = .ok (.invokevirtual 96, 3) := by decide +kernel
theorem dX6_land_42 : decode cX6_land 42 = .ok (.aload_n 0, 1) := by decide +kernel
theorem dX6_land_43 : decode cX6_land 43 = .ok (.getfield 10, 3) := by decide +kernel
theorem dX6_land_46 : decode cX6_land 46 = .ok (.iconst 0, 1) := by decide +kernel
theorem dX6_land_47 : decode cX6_land 47 = .ok (.putfield 78, 3) := by decide +kernel
theorem dX6_land_50 : decode cX6_land 50 = .ok (.aload_n 0, 1) := by decide +kernel
theorem dX6_land_51 : decode cX6_land 51 = .ok (.getfield 33, 3) := by decide +kernel
theorem dX6_land_54 : decode cX6_land 54 = .ok (.iconst 0, 1) := by decide +kernel
theorem dX6_land_55 : decode cX6_land 55 = .ok (.putfield 99, 3) := by decide +kernel
theorem dX6_land_58 : decode cX6_land 58 = .ok (.aload_n 0, 1) := by decide +kernel
theorem dX6_land_59 : decode cX6_land 59 = .ok (.getfield 48, 3) := by decide +kernel
theorem dX6_land_62 : decode cX6_land 62 = .ok (.iconst 0, 1) := by decide +kernel
theorem dX6_land_63 : decode cX6_land 63 = .ok (.putfield 102, 3) := by decide +kernel
theorem dX6_land_66 : decode cX6_land 66 = .ok (.aload_n 0, 1) := by decide +kernel
theorem dX6_land_67 : decode cX6_land 67 = .ok (.getfield 55, 3) := by decide +kernel
theorem dX6_land_70 : decode cX6_land 70 = .ok (.iconst 0, 1) := by decide +kernel
theorem dX6_land_71 : decode cX6_land 71 = .ok (.putfield 105, 3) := by decide +kernel
theorem dX6_land_74 : decode cX6_land 74 = .ok (.iconst 0, 1) := by decide +kernel
theorem dX6_land_75 : decode cX6_land 75 = .ok (.istore_n 2, 1) := by decide +kernel
theorem dX6_land_76 : decode cX6_land 76 = .ok (.iload_n 2, 1) := by decide +kernel
theorem dX6_land_77 : decode cX6_land 77 = .ok (.iconst 2, 1) := by decide +kernel
theorem dX6_land_78 : decode cX6_land 78 = .ok (.if_icmp .ge 16, 3) := by decide +kernel
theorem dX6_land_81 : decode cX6_land 81 = .ok (.aload_n 0, 1) := by decide +kernel
theorem dX6_land_82 : decode cX6_land 82 = .ok (.getfield 41, 3) := by decide +kernel
theorem dX6_land_85 : decode cX6_land 85 = .ok (.iload_n 2, 1) := by decide +kernel
theorem dX6_land_86 : decode cX6_land 86 = .ok (.iconst 0, 1) := by decide +kernel
theorem dX6_land_87 : decode cX6_land 87 = .ok (.bastore, 1) := by decide +kernel
theorem dX6_land_88 : decode cX6_land 88 = .ok (.iinc 2 1, 3) := by decide +kernel
theorem dX6_land_91 : decode cX6_land 91 = .ok (.goto (-15), 3) := by decide +kernel
theorem dX6_land_94 : decode cX6_land 94 = .ok (.iload_n 1, 1) := by decide +kernel
theorem dX6_land_95 : decode cX6_land 95 = .ok (.ireturn, 1) := by decide +kernel
theorem dX6_scale_0 : decode cX6_scale 0 = .ok (.aload_n 0, 1) := by decide +kernel
theorem dX6_scale_1 : decode cX6_scale 1 = .ok (.getfield 19, 3) := by decide +kernel
theorem dX6_scale_4 : decode cX6_scale 4 = .ok (.iload_n 1, 1) := by decide +kernel
theorem dX6_scale_5 : decode cX6_scale 5 = .ok (.invokevirtual 106, 3) := by decide +kernel
theorem dX6_scale_8 : decode cX6_scale 8 = .ok (.ifCond .eq 12, 3) := by decide +kernel
theorem dX6_scale_11 : decode cX6_scale 11 = .ok (.iload_n 2, 1) := by decide +kernel
theorem dX6_scale_12 : decode cX6_scale 12 = .ok (.iconst 0, 1) := by decide +kernel
theorem dX6_scale_13 : decode cX6_scale 13 = .ok (.iconst 2, 1) := by decide +kernel
theorem dX6_scale_14 : decode cX6_scale 14 = .ok (.invokestatic 70, 3) := by decide +kernel
theorem dX6_scale_17 : decode cX6_scale 17 = .ok (.ifCond .ne 5, 3) := by decide +kernel
theorem dX6_scale_20 : decode cX6_scale 20 = .ok (.iconst (-1), 1) := by decide +kernel
theorem dX6_scale_21 : decode cX6_scale 21 = .ok (.ireturn, 1) := by decide +kernel
theorem dX6_scale_22 : decode cX6_scale 22 = .ok (.iload_n 2, 1) := by decide +kernel
theorem dX6_scale_23 : decode cX6_scale 23 = .ok (.ifCond .ne 13, 3) := by decide +kernel
theorem dX6_scale_26 : decode cX6_scale 26 = .ok (.aload_n 0, 1) := by decide +kernel
theorem dX6_scale_27 : decode cX6_scale 27 = .ok (.getfield 26, 3) := by decide +kernel
theorem dX6_scale_30 : decode cX6_scale 30 = .ok (.getfield 109, 3) := by decide +kernel
theorem dX6_scale_33 : decode cX6_scale 33 = .ok (.iload_n 1, 1) := by decide +kernel
theorem dX6_scale_34 : decode cX6_scale 34 = .ok (.iaload, 1) := by decide +kernel
theorem dX6_scale_35 : decode cX6_scale 35 = .ok (.ireturn, 1) := by decide +kernel
theorem dX6_scale_36 : decode cX6_scale 36 = .ok (.iload_n 2, 1) := by decide +kernel
theorem dX6_scale_37 : decode cX6_scale 37 = .ok (.iconst 1, 1) := by decide +kernel
theorem dX6_scale_38 : decode cX6_scale 38 = .ok (.if_icmp .ne 15, 3) := by decide +kernel
theorem dX6_scale_41 : decode cX6_scale 41 = .ok (.aload_n 0, 1) := by decide +kernel
theorem dX6_scale_42 : decode cX6_scale 42 = .ok (.getfield 19, 3) := by decide +kernel
theorem dX6_scale_45 : decode cX6_scale 45 = .ok (.getfield 112, 3) := by decide +kernel
theorem dX6_scale_48 : decode cX6_scale 48 = .ok (.iload_n 1, 1) := by decide +kernel
theorem dX6_scale_49 : decode cX6_scale 49 = .ok (.iaload, 1) := by decide +kernel
theorem dX6_scale_50 : decode cX6_scale 50 = .ok (.goto 12, 3) := by decide +kernel
theorem dX6_scale_53 : decode cX6_scale 53 = .ok (.aload_n 0, 1) := by decide +kernel
theorem dX6_scale_54 : decode cX6_scale 54 = .ok (.getfield 26, 3) := by decide +kernel
theorem dX6_scale_57 : decode cX6_scale 57 = .ok (.getfield 115, 3) := by decide +kernel
theorem dX6_scale_60 : decode cX6_scale 60 = .ok (.iload_n 1, 1) := by decide +kernel
theorem dX6_scale_61 : decode cX6_scale 61 = .ok (.iaload, 1) := by decide +kernel
theorem dX6_scale_62 : decode cX6_scale 62 = .ok (.ireturn, 1) := by decide +kernel
theorem dX6_life_0 : decode cX6_life 0 = .ok (.aload_n 0, 1) := by decide +kernel
theorem dX6_life_1 : decode cX6_life 1 = .ok (.getfield 19, 3) := by decide +kernel
theorem dX6_life_4 : decode cX6_life 4 = .ok (.iload_n 1, 1) := by decide +kernel
theorem dX6_life_5 : decode cX6_life 5 = .ok (.invokevirtual 118, 3) := by decide +kernel
theorem dX6_life_8 : decode cX6_life 8 = .ok (.ifCond .eq 23, 3) := by decide +kernel
theorem dX6_life_11 : decode cX6_life 11 = .ok (.aload_n 0, 1) := by decide +kernel
theorem dX6_life_12 : decode cX6_life 12 = .ok (.getfield 19, 3) := by decide +kernel
theorem dX6_life_15 : decode cX6_life 15 = .ok (.iload_n 2, 1) := by decide +kernel
theorem dX6_life_16 : decode cX6_life 16 = .ok (.invokevirtual 106, 3) := by decide +kernel
theorem dX6_life_19 : decode cX6_life 19 = .ok (.ifCond .eq 12, 3) := by decide +kernel
theorem dX6_life_22 : decode cX6_life 22 = .ok (.iload_n 3, 1) := by decide +kernel
theorem dX6_life_23 : decode cX6_life 23 = .ok (.iconst 0, 1) := by decide +kernel
theorem dX6_life_24 : decode cX6_life 24 = .ok (.iconst 2, 1) := by decide +kernel
theorem dX6_life_25 : decode cX6_life 25 = .ok (.invokestatic 70, 3) := by decide +kernel
theorem dX6_life_28 : decode cX6_life 28 = .ok (.ifCond .ne 5, 3) := by decide +kernel
theorem dX6_life_31 : decode cX6_life 31 = .ok (.iconst (-1), 1) := by decide +kernel
theorem dX6_life_32 : decode cX6_life 32 = .ok (.ireturn, 1) := by decide +kernel
theorem dX6_life_33 : decode cX6_life 33 = .ok (.iload_n 3, 1) := by decide +kernel
theorem dX6_life_34 : decode cX6_life 34 = .ok (.ifCond .ne 17, 3) := by decide +kernel
theorem dX6_life_37 : decode cX6_life 37 = .ok (.aload_n 0, 1) := by decide +kernel
theorem dX6_life_38 : decode cX6_life 38 = .ok (.getfield 26, 3) := by decide +kernel
theorem dX6_life_41 : decode cX6_life 41 = .ok (.getfield 121, 3) := by decide +kernel
theorem dX6_life_44 : decode cX6_life 44 = .ok (.iload_n 1, 1) := by decide +kernel
theorem dX6_life_45 : decode cX6_life 45 = .ok (.iload_n 2, 1) := by decide +kernel
theorem dX6_life_46 : decode cX6_life 46 = .ok (.invokestatic 124, 3) := by decide +kernel
theorem dX6_life_49 : decode cX6_life 49 = .ok (.iaload, 1) := by decide +kernel
theorem dX6_life_50 : decode cX6_life 50 = .ok (.ireturn, 1) := by decide +kernel
theorem dX6_life_51 : decode cX6_life 51 = .ok (.iload_n 3, 1) := by decide +kernel
theorem dX6_life_52 : decode cX6_life 52 = .ok (.iconst 1, 1) := by decide +kernel
theorem dX6_life_53 : decode cX6_life 53 = .ok (.if_icmp .ne 21, 3) := by decide +kernel
theorem dX6_life_56 : decode cX6_life 56 = .ok (.aload_n 0, 1) := by decide +kernel
theorem dX6_life_57 : decode cX6_life 57 = .ok (.getfield 19, 3) := by decide +kernel
theorem dX6_life_60 : decode cX6_life 60 = .ok (.getfield 128, 3) := by decide +kernel
theorem dX6_life_63 : decode cX6_life 63 = .ok (.iload_n 1, 1) := by decide +kernel
theorem dX6_life_64 : decode cX6_life 64 = .ok (.iload_n 2, 1) := by decide +kernel
theorem dX6_life_65 : decode cX6_life 65 = .ok (.invokestatic 124, 3) := by decide +kernel
theorem dX6_life_68 : decode cX6_life 68 = .ok (.iaload, 1) := by decide +kernel
theorem dX6_life_69 : decode cX6_life 69 = .ok (.iconst 3, 1) := by decide +kernel
theorem dX6_life_70 : decode cX6_life 70 = .ok (.iadd, 1) := by decide +kernel
theorem dX6_life_71 : decode cX6_life 71 = .ok (.goto 10, 3) := by decide +kernel
theorem dX6_life_74 : decode cX6_life 74 = .ok (.aload_n 0, 1) := by decide +kernel
theorem dX6_life_75 : decode cX6_life 75 = .ok (.iconst 0, 1) := by decide +kernel
theorem dX6_life_76 : decode cX6_life 76 = .ok (.iload_n 1, 1) := by decide +kernel
theorem dX6_life_77 : decode cX6_life 77 = .ok (.iload_n 2, 1) := by decide +kernel
theorem dX6_life_78 : decode cX6_life 78 = .ok (.invokevirtual 131, 3) := by decide +kernel
theorem dX6_life_81 : decode cX6_life 81 = .ok (.ireturn, 1) := by decide +kernel
theorem dX6_end_0 : decode cX6_end 0 = .ok (.aload_n 0, 1) := by decide +kernel
theorem dX6_end_1 : decode cX6_end 1 = .ok (.getfield 19, 3) := by decide +kernel
theorem dX6_end_4 : decode cX6_end 4 = .ok (.iload_n 1, 1) := by decide +kernel
theorem dX6_end_5 : decode cX6_end 5 = .ok (.invokevirtual 106, 3) := by decide +kernel
theorem dX6_end_8 : decode cX6_end 8 = .ok (.ifCond .eq 20, 3) := by decide +kernel
theorem dX6_end_11 : decode cX6_end 11 = .ok (.iload_n 2, 1) := by decide +kernel
theorem dX6_end_12 : decode cX6_end 12 = .ok (.iconst 0, 1) := by decide +kernel
theorem dX6_end_13 : decode cX6_end 13 = .ok (.aload_n 0, 1) := by decide +kernel
theorem dX6_end_14 : decode cX6_end 14 = .ok (.getfield 19, 3) := by decide +kernel
theorem dX6_end_17 : decode cX6_end 17 = .ok (.getfield 112, 3) := by decide +kernel
theorem dX6_end_20 : decode cX6_end 20 = .ok (.iload_n 1, 1) := by decide +kernel
theorem dX6_end_21 : decode cX6_end 21 = .ok (.iaload, 1) := by decide +kernel
theorem dX6_end_22 : decode cX6_end 22 = .ok (.invokestatic 70, 3) := by decide +kernel
theorem dX6_end_25 : decode cX6_end 25 = .ok (.ifCond .ne 5, 3) := by decide +kernel
theorem dX6_end_28 : decode cX6_end 28 = .ok (.iconst (-1), 1) := by decide +kernel
theorem dX6_end_29 : decode cX6_end 29 = .ok (.ireturn, 1) := by decide +kernel
theorem dX6_end_30 : decode cX6_end 30 = .ok (.aload_n 0, 1) := by decide +kernel
theorem dX6_end_31 : decode cX6_end 31 = .ok (.iload_n 1, 1) := by decide +kernel
theorem dX6_end_32 : decode cX6_end 32 = .ok (.iload_n 2, 1) := by decide +kernel
theorem dX6_end_33 : decode cX6_end 33 = .ok (.invokevirtual 135, 3) := by decide +kernel
theorem dX6_end_36 : decode cX6_end 36 = .ok (.ireturn, 1) := by decide +kernel
theorem dX6_place_0 : decode cX6_place 0 = .ok (.aload_n 0, 1) := by decide +kernel
theorem dX6_place_1 : decode cX6_place 1 = .ok (.getfield 19, 3) := by decide +kernel
theorem dX6_place_4 : decode cX6_place 4 = .ok (.iload_n 1, 1) := by decide +kernel
theorem dX6_place_5 : decode cX6_place 5 = .ok (.invokevirtual 138, 3) := by decide +kernel
theorem dX6_place_8 : decode cX6_place 8 = .ok (.ifCond .eq 15, 3) := by decide +kernel
theorem dX6_place_11 : decode cX6_place 11 = .ok (.aload_n 0, 1) := by decide +kernel
theorem dX6_place_12 : decode cX6_place 12 = .ok (.getfield 19, 3) := by decide +kernel
theorem dX6_place_15 : decode cX6_place 15 = .ok (.getfield 141, 3) := by decide +kernel
theorem dX6_place_18 : decode cX6_place 18 = .ok (.iload_n 1, 1) := by decide +kernel
theorem dX6_place_19 : decode cX6_place 19 = .ok (.iaload, 1) := by decide +kernel
theorem dX6_place_20 : decode cX6_place 20 = .ok (.goto 4, 3) := by decide +kernel
theorem dX6_place_23 : decode cX6_place 23 = .ok (.iconst (-1), 1) := by decide +kernel
theorem dX6_place_24 : decode cX6_place 24 = .ok (.ireturn, 1) := by decide +kernel
theorem dX6_passes_0 : decode cX6_passes 0 = .ok (.iload_n 1, 1) := by decide +kernel
theorem dX6_passes_1 : decode cX6_passes 1 = .ok (.iconst 1, 1) := by decide +kernel
theorem dX6_passes_2 : decode cX6_passes 2 = .ok (.bipush 30, 2) := by decide +kernel
theorem dX6_passes_4 : decode cX6_passes 4 = .ok (.invokestatic 70, 3) := by decide +kernel
theorem dX6_passes_7 : decode cX6_passes 7 = .ok (.ifCond .ne 5, 3) := by decide +kernel
theorem dX6_passes_10 : decode cX6_passes 10 = .ok (.iconst (-1), 1) := by decide +kernel
theorem dX6_passes_11 : decode cX6_passes 11 = .ok (.ireturn, 1) := by decide +kernel
theorem dX6_passes_12 : decode cX6_passes 12 = .ok (.aload_n 0, 1) := by decide +kernel
theorem dX6_passes_13 : decode cX6_passes 13 = .ok (.getfield 26, 3) := by decide +kernel
theorem dX6_passes_16 : decode cX6_passes 16 = .ok (.getfield 144, 3) := by decide +kernel
theorem dX6_passes_19 : decode cX6_passes 19 = .ok (.iload_n 1, 1) := by decide +kernel
theorem dX6_passes_20 : decode cX6_passes 20 = .ok (.iadd, 1) := by decide +kernel
theorem dX6_passes_21 : decode cX6_passes 21 = .ok (.bipush 99, 2) := by decide +kernel
theorem dX6_passes_23 : decode cX6_passes 23 = .ok (.if_icmp .le 6, 3) := by decide +kernel
theorem dX6_passes_26 : decode cX6_passes 26 = .ok (.bipush (-2), 2) := by decide +kernel
theorem dX6_passes_28 : decode cX6_passes 28 = .ok (.ireturn, 1) := by decide +kernel
theorem dX6_passes_29 : decode cX6_passes 29 = .ok (.aload_n 0, 1) := by decide +kernel
theorem dX6_passes_30 : decode cX6_passes 30 = .ok (.getfield 33, 3) := by decide +kernel
theorem dX6_passes_33 : decode cX6_passes 33 = .ok (.aload_n 0, 1) := by decide +kernel
theorem dX6_passes_34 : decode cX6_passes 34 = .ok (.getfield 26, 3) := by decide +kernel
theorem dX6_passes_37 : decode cX6_passes 37 = .ok (.invokevirtual 147, 3) := by decide +kernel
theorem dX6_passes_40 : decode cX6_passes 40 = .ok (.iconst 0, 1) := by decide +kernel
theorem dX6_passes_41 : decode cX6_passes 41 = .ok (.istore_n 2, 1) := by decide +kernel
theorem dX6_passes_42 : decode cX6_passes 42 = .ok (.iload_n 2, 1) := by decide +kernel
theorem dX6_passes_43 : decode cX6_passes 43 = .ok (.iload_n 1, 1) := by decide +kernel
theorem dX6_passes_44 : decode cX6_passes 44 = .ok (.if_icmp .ge 13, 3) := by decide +kernel
theorem dX6_passes_47 : decode cX6_passes 47 = .ok (.aload_n 0, 1) := by decide +kernel
theorem dX6_passes_48 : decode cX6_passes 48 = .ok (.invokevirtual 150, 3) := by decide +kernel
theorem dX6_passes_51 : decode cX6_passes 51 = .ok (.iinc 2 1, 3) := by decide +kernel
theorem dX6_passes_54 : decode cX6_passes 54 = .ok (.goto (-12), 3) := by decide +kernel
theorem dX6_passes_57 : decode cX6_passes 57 = .ok (.aload_n 0, 1) := by decide +kernel
theorem dX6_passes_58 : decode cX6_passes 58 = .ok (.getfield 26, 3) := by decide +kernel
theorem dX6_passes_61 : decode cX6_passes 61 = .ok (.getfield 144, 3) := by decide +kernel
theorem dX6_passes_64 : decode cX6_passes 64 = .ok (.ireturn, 1) := by decide +kernel
theorem dX6_changes_0 : decode cX6_changes 0 = .ok (.aload_n 0, 1) := by decide +kernel
theorem dX6_changes_1 : decode cX6_changes 1 = .ok (.getfield 19, 3) := by decide +kernel
theorem dX6_changes_4 : decode cX6_changes 4 = .ok (.iload_n 1, 1) := by decide +kernel
theorem dX6_changes_5 : decode cX6_changes 5 = .ok (.invokevirtual 118, 3) := by decide +kernel
theorem dX6_changes_8 : decode cX6_changes 8 = .ok (.ifCond .eq 25, 3) := by decide +kernel
theorem dX6_changes_11 : decode cX6_changes 11 = .ok (.aload_n 0, 1) := by decide +kernel
theorem dX6_changes_12 : decode cX6_changes 12 = .ok (.getfield 19, 3) := by decide +kernel
theorem dX6_changes_15 : decode cX6_changes 15 = .ok (.iload_n 2, 1) := by decide +kernel
theorem dX6_changes_16 : decode cX6_changes 16 = .ok (.invokevirtual 106, 3) := by decide +kernel
theorem dX6_changes_19 : decode cX6_changes 19 = .ok (.ifCond .eq 14, 3) := by decide +kernel
theorem dX6_changes_22 : decode cX6_changes 22 = .ok (.iload_n 3, 1) := by decide +kernel
theorem dX6_changes_23 : decode cX6_changes 23 = .ok (.bipush (-9), 2) := by decide +kernel
theorem dX6_changes_25 : decode cX6_changes 25 = .ok (.bipush 9, 2) := by decide +kernel
theorem dX6_changes_27 : decode cX6_changes 27 = .ok (.invokestatic 70, 3) := by decide +kernel
theorem dX6_changes_30 : decode cX6_changes 30 = .ok (.ifCond .ne 5, 3) := by decide +kernel
theorem dX6_changes_33 : decode cX6_changes 33 = .ok (.iconst (-1), 1) := by decide +kernel
theorem dX6_changes_34 : decode cX6_changes 34 = .ok (.ireturn, 1) := by decide +kernel
theorem dX6_changes_35 : decode cX6_changes 35 = .ok (.aload_n 0, 1) := by decide +kernel
theorem dX6_changes_36 : decode cX6_changes 36 = .ok (.getfield 33, 3) := by decide +kernel
theorem dX6_changes_39 : decode cX6_changes 39 = .ok (.aload_n 0, 1) := by decide +kernel
theorem dX6_changes_40 : decode cX6_changes 40 = .ok (.getfield 26, 3) := by decide +kernel
theorem dX6_changes_43 : decode cX6_changes 43 = .ok (.invokevirtual 147, 3) := by decide +kernel
theorem dX6_changes_46 : decode cX6_changes 46 = .ok (.iload_n 1, 1) := by decide +kernel
theorem dX6_changes_47 : decode cX6_changes 47 = .ok (.iload_n 2, 1) := by decide +kernel
theorem dX6_changes_48 : decode cX6_changes 48 = .ok (.invokestatic 124, 3) := by decide +kernel
theorem dX6_changes_51 : decode cX6_changes 51 = .ok (.istore 4, 2) := by decide +kernel
theorem dX6_changes_53 : decode cX6_changes 53 = .ok (.aload_n 0, 1) := by decide +kernel
theorem dX6_changes_54 : decode cX6_changes 54 = .ok (.getfield 26, 3) := by decide +kernel
theorem dX6_changes_57 : decode cX6_changes 57 = .ok (.getfield 121, 3) := by decide +kernel
theorem dX6_changes_60 : decode cX6_changes 60 = .ok (.iload 4, 2) := by decide +kernel
theorem dX6_changes_62 : decode cX6_changes 62 = .ok (.aload_n 0, 1) := by decide +kernel
theorem dX6_changes_63 : decode cX6_changes 63 = .ok (.getfield 26, 3) := by decide +kernel
theorem dX6_changes_66 : decode cX6_changes 66 = .ok (.getfield 121, 3) := by decide +kernel
theorem dX6_changes_69 : decode cX6_changes 69 = .ok (.iload 4, 2) := by decide +kernel
theorem dX6_changes_71 : decode cX6_changes 71 = .ok (.iaload, 1) := by decide +kernel
theorem dX6_changes_72 : decode cX6_changes 72 = .ok (.iload_n 3, 1) := by decide +kernel
theorem dX6_changes_73 : decode cX6_changes 73 = .ok (.aload_n 0, 1) := by decide +kernel
theorem dX6_changes_74 : decode cX6_changes 74 = .ok (.getfield 19, 3) := by decide +kernel
theorem dX6_changes_77 : decode cX6_changes 77 = .ok (.getfield 112, 3) := by decide +kernel
theorem dX6_changes_80 : decode cX6_changes 80 = .ok (.iload_n 2, 1) := by decide +kernel
theorem dX6_changes_81 : decode cX6_changes 81 = .ok (.iaload, 1) := by decide +kernel
theorem dX6_changes_82 : decode cX6_changes 82 = .ok (.invokestatic 153, 3) := by decide +kernel
theorem dX6_changes_85 : decode cX6_changes 85 = .ok (.iastore, 1) := by decide +kernel
theorem dX6_changes_86 : decode cX6_changes 86 = .ok (.aload_n 0, 1) := by decide +kernel
theorem dX6_changes_87 : decode cX6_changes 87 = .ok (.getfield 26, 3) := by decide +kernel
theorem dX6_changes_90 : decode cX6_changes 90 = .ok (.getfield 121, 3) := by decide +kernel
theorem dX6_changes_93 : decode cX6_changes 93 = .ok (.iload 4, 2) := by decide +kernel
theorem dX6_changes_95 : decode cX6_changes 95 = .ok (.iaload, 1) := by decide +kernel
theorem dX6_changes_96 : decode cX6_changes 96 = .ok (.ireturn, 1) := by decide +kernel
theorem dX6_law_0 : decode cX6_law 0 = .ok (.aload_n 0, 1) := by decide +kernel
theorem dX6_law_1 : decode cX6_law 1 = .ok (.iload_n 1, 1) := by decide +kernel
theorem dX6_law_2 : decode cX6_law 2 = .ok (.iload_n 2, 1) := by decide +kernel
theorem dX6_law_3 : decode cX6_law 3 = .ok (.iload_n 3, 1) := by decide +kernel
theorem dX6_law_4 : decode cX6_law 4 = .ok (.invokevirtual 156, 3) := by decide +kernel
theorem dX6_law_7 : decode cX6_law 7 = .ok (.ifCond .ne 5, 3) := by decide +kernel
theorem dX6_law_10 : decode cX6_law 10 = .ok (.iconst (-1), 1) := by decide +kernel
theorem dX6_law_11 : decode cX6_law 11 = .ok (.ireturn, 1) := by decide +kernel
theorem dX6_law_12 : decode cX6_law 12 = .ok (.aload_n 0, 1) := by decide +kernel
theorem dX6_law_13 : decode cX6_law 13 = .ok (.getfield 33, 3) := by decide +kernel
theorem dX6_law_16 : decode cX6_law 16 = .ok (.aload_n 0, 1) := by decide +kernel
theorem dX6_law_17 : decode cX6_law 17 = .ok (.getfield 26, 3) := by decide +kernel
theorem dX6_law_20 : decode cX6_law 20 = .ok (.invokevirtual 147, 3) := by decide +kernel
theorem dX6_law_23 : decode cX6_law 23 = .ok (.aload_n 0, 1) := by decide +kernel
theorem dX6_law_24 : decode cX6_law 24 = .ok (.getfield 26, 3) := by decide +kernel
theorem dX6_law_27 : decode cX6_law 27 = .ok (.getfield 109, 3) := by decide +kernel
theorem dX6_law_30 : decode cX6_law 30 = .ok (.iload_n 1, 1) := by decide +kernel
theorem dX6_law_31 : decode cX6_law 31 = .ok (.iload_n 2, 1) := by decide +kernel
theorem dX6_law_32 : decode cX6_law 32 = .ok (.iastore, 1) := by decide +kernel
theorem dX6_law_33 : decode cX6_law 33 = .ok (.aload_n 0, 1) := by decide +kernel
theorem dX6_law_34 : decode cX6_law 34 = .ok (.getfield 26, 3) := by decide +kernel
theorem dX6_law_37 : decode cX6_law 37 = .ok (.getfield 115, 3) := by decide +kernel
theorem dX6_law_40 : decode cX6_law 40 = .ok (.iload_n 1, 1) := by decide +kernel
theorem dX6_law_41 : decode cX6_law 41 = .ok (.iload_n 3, 1) := by decide +kernel
theorem dX6_law_42 : decode cX6_law 42 = .ok (.iastore, 1) := by decide +kernel
theorem dX6_law_43 : decode cX6_law 43 = .ok (.aload_n 0, 1) := by decide +kernel
theorem dX6_law_44 : decode cX6_law 44 = .ok (.invokevirtual 159, 3) := by decide +kernel
theorem dX6_law_47 : decode cX6_law 47 = .ok (.invokestatic 162, 3) := by decide +kernel
theorem dX6_law_50 : decode cX6_law 50 = .ok (.ireturn, 1) := by decide +kernel
theorem dX6_undo_0 : decode cX6_undo 0 = .ok (.aload_n 0, 1) := by decide +kernel
theorem dX6_undo_1 : decode cX6_undo 1 = .ok (.getfield 33, 3) := by decide +kernel
theorem dX6_undo_4 : decode cX6_undo 4 = .ok (.aload_n 0, 1) := by decide +kernel
theorem dX6_undo_5 : decode cX6_undo 5 = .ok (.getfield 26, 3) := by decide +kernel
theorem dX6_undo_8 : decode cX6_undo 8 = .ok (.invokevirtual 168, 3) := by decide +kernel
theorem dX6_undo_11 : decode cX6_undo 11 = .ok (.ifCond .eq 13, 3) := by decide +kernel
theorem dX6_undo_14 : decode cX6_undo 14 = .ok (.aload_n 0, 1) := by decide +kernel
theorem dX6_undo_15 : decode cX6_undo 15 = .ok (.getfield 33, 3) := by decide +kernel
theorem dX6_undo_18 : decode cX6_undo 18 = .ok (.getfield 99, 3) := by decide +kernel
theorem dX6_undo_21 : decode cX6_undo 21 = .ok (.goto 5, 3) := by decide +kernel
theorem dX6_undo_24 : decode cX6_undo 24 = .ok (.bipush (-2), 2) := by decide +kernel
theorem dX6_undo_26 : decode cX6_undo 26 = .ok (.ireturn, 1) := by decide +kernel
theorem dX6_now_0 : decode cX6_now 0 = .ok (.iload_n 1, 1) := by decide +kernel
theorem dX6_now_1 : decode cX6_now 1 = .ok (.tableswitch 93 0 5 #[39, 47, 52, 57, 77, 85], 39) := by decide +kernel
theorem dX6_now_40 : decode cX6_now 40 = .ok (.aload_n 0, 1) := by decide +kernel
theorem dX6_now_41 : decode cX6_now 41 = .ok (.getfield 26, 3) := by decide +kernel
theorem dX6_now_44 : decode cX6_now 44 = .ok (.getfield 144, 3) := by decide +kernel
theorem dX6_now_47 : decode cX6_now 47 = .ok (.ireturn, 1) := by decide +kernel
theorem dX6_now_48 : decode cX6_now 48 = .ok (.aload_n 0, 1) := by decide +kernel
theorem dX6_now_49 : decode cX6_now 49 = .ok (.invokevirtual 159, 3) := by decide +kernel
theorem dX6_now_52 : decode cX6_now 52 = .ok (.ireturn, 1) := by decide +kernel
theorem dX6_now_53 : decode cX6_now 53 = .ok (.aload_n 0, 1) := by decide +kernel
theorem dX6_now_54 : decode cX6_now 54 = .ok (.invokevirtual 172, 3) := by decide +kernel
theorem dX6_now_57 : decode cX6_now 57 = .ok (.ireturn, 1) := by decide +kernel
theorem dX6_now_58 : decode cX6_now 58 = .ok (.aload_n 0, 1) := by decide +kernel
theorem dX6_now_59 : decode cX6_now 59 = .ok (.invokevirtual 172, 3) := by decide +kernel
theorem dX6_now_62 : decode cX6_now 62 = .ok (.aload_n 0, 1) := by decide +kernel
theorem dX6_now_63 : decode cX6_now 63 = .ok (.getfield 19, 3) := by decide +kernel
theorem dX6_now_66 : decode cX6_now 66 = .ok (.getfield 175, 3) := by decide +kernel
theorem dX6_now_69 : decode cX6_now 69 = .ok (.if_icmp .le 7, 3) := by decide +kernel
theorem dX6_now_72 : decode cX6_now 72 = .ok (.iconst 1, 1) := by decide +kernel
theorem dX6_now_73 : decode cX6_now 73 = .ok (.goto 4, 3) := by decide +kernel
theorem dX6_now_76 : decode cX6_now 76 = .ok (.iconst 0, 1) := by decide +kernel
theorem dX6_now_77 : decode cX6_now 77 = .ok (.ireturn, 1) := by decide +kernel
theorem dX6_now_78 : decode cX6_now 78 = .ok (.aload_n 0, 1) := by decide +kernel
theorem dX6_now_79 : decode cX6_now 79 = .ok (.getfield 26, 3) := by decide +kernel
theorem dX6_now_82 : decode cX6_now 82 = .ok (.getfield 178, 3) := by decide +kernel
theorem dX6_now_85 : decode cX6_now 85 = .ok (.ireturn, 1) := by decide +kernel
theorem dX6_now_86 : decode cX6_now 86 = .ok (.aload_n 0, 1) := by decide +kernel
theorem dX6_now_87 : decode cX6_now 87 = .ok (.getfield 33, 3) := by decide +kernel
theorem dX6_now_90 : decode cX6_now 90 = .ok (.getfield 99, 3) := by decide +kernel
theorem dX6_now_93 : decode cX6_now 93 = .ok (.ireturn, 1) := by decide +kernel
theorem dX6_now_94 : decode cX6_now 94 = .ok (.iconst (-1), 1) := by decide +kernel
theorem dX6_now_95 : decode cX6_now 95 = .ok (.ireturn, 1) := by decide +kernel
theorem dX6_behind_0 : decode cX6_behind 0 = .ok (.iload_n 1, 1) := by decide +kernel
theorem dX6_behind_1 : decode cX6_behind 1 = .ok (.iconst 0, 1) := by decide +kernel
theorem dX6_behind_2 : decode cX6_behind 2 = .ok (.bipush 60, 2) := by decide +kernel
theorem dX6_behind_4 : decode cX6_behind 4 = .ok (.invokestatic 70, 3) := by decide +kernel
theorem dX6_behind_7 : decode cX6_behind 7 = .ok (.ifCond .eq 25, 3) := by decide +kernel
theorem dX6_behind_10 : decode cX6_behind 10 = .ok (.aload_n 0, 1) := by decide +kernel
theorem dX6_behind_11 : decode cX6_behind 11 = .ok (.getfield 19, 3) := by decide +kernel
theorem dX6_behind_14 : decode cX6_behind 14 = .ok (.iload_n 2, 1) := by decide +kernel
theorem dX6_behind_15 : decode cX6_behind 15 = .ok (.invokevirtual 118, 3) := by decide +kernel
theorem dX6_behind_18 : decode cX6_behind 18 = .ok (.ifCond .eq 14, 3) := by decide +kernel
theorem dX6_behind_21 : decode cX6_behind 21 = .ok (.aload_n 0, 1) := by decide +kernel
theorem dX6_behind_22 : decode cX6_behind 22 = .ok (.getfield 19, 3) := by decide +kernel
theorem dX6_behind_25 : decode cX6_behind 25 = .ok (.iload_n 3, 1) := by decide +kernel
theorem dX6_behind_26 : decode cX6_behind 26 = .ok (.invokevirtual 106, 3) := by decide +kernel
theorem dX6_behind_29 : decode cX6_behind 29 = .ok (.ifCond .ne 5, 3) := by decide +kernel
theorem dX6_behind_32 : decode cX6_behind 32 = .ok (.iconst (-1), 1) := by decide +kernel
theorem dX6_behind_33 : decode cX6_behind 33 = .ok (.ireturn, 1) := by decide +kernel
theorem dX6_behind_34 : decode cX6_behind 34 = .ok (.aload_n 0, 1) := by decide +kernel
theorem dX6_behind_35 : decode cX6_behind 35 = .ok (.iload_n 1, 1) := by decide +kernel
theorem dX6_behind_36 : decode cX6_behind 36 = .ok (.iload_n 2, 1) := by decide +kernel
theorem dX6_behind_37 : decode cX6_behind 37 = .ok (.iload_n 3, 1) := by decide +kernel
theorem dX6_behind_38 : decode cX6_behind 38 = .ok (.invokevirtual 131, 3) := by decide +kernel
theorem dX6_behind_41 : decode cX6_behind 41 = .ok (.ireturn, 1) := by decide +kernel
theorem dX6_first_0 : decode cX6_first 0 = .ok (.aload_n 0, 1) := by decide +kernel
theorem dX6_first_1 : decode cX6_first 1 = .ok (.getfield 19, 3) := by decide +kernel
theorem dX6_first_4 : decode cX6_first 4 = .ok (.iload_n 1, 1) := by decide +kernel
theorem dX6_first_5 : decode cX6_first 5 = .ok (.invokevirtual 118, 3) := by decide +kernel
theorem dX6_first_8 : decode cX6_first 8 = .ok (.ifCond .eq 12, 3) := by decide +kernel
theorem dX6_first_11 : decode cX6_first 11 = .ok (.iload_n 2, 1) := by decide +kernel
theorem dX6_first_12 : decode cX6_first 12 = .ok (.iconst 0, 1) := by decide +kernel
theorem dX6_first_13 : decode cX6_first 13 = .ok (.iconst 1, 1) := by decide +kernel
theorem dX6_first_14 : decode cX6_first 14 = .ok (.invokestatic 70, 3) := by decide +kernel
theorem dX6_first_17 : decode cX6_first 17 = .ok (.ifCond .ne 5, 3) := by decide +kernel
theorem dX6_first_20 : decode cX6_first 20 = .ok (.iconst (-1), 1) := by decide +kernel
theorem dX6_first_21 : decode cX6_first 21 = .ok (.ireturn, 1) := by decide +kernel
theorem dX6_first_22 : decode cX6_first 22 = .ok (.iconst 0, 1) := by decide +kernel
theorem dX6_first_23 : decode cX6_first 23 = .ok (.istore_n 3, 1) := by decide +kernel
theorem dX6_first_24 : decode cX6_first 24 = .ok (.iload_n 3, 1) := by decide +kernel
theorem dX6_first_25 : decode cX6_first 25 = .ok (.bipush 60, 2) := by decide +kernel
theorem dX6_first_27 : decode cX6_first 27 = .ok (.if_icmp .gt 35, 3) := by decide +kernel
theorem dX6_first_30 : decode cX6_first 30 = .ok (.aload_n 0, 1) := by decide +kernel
theorem dX6_first_31 : decode cX6_first 31 = .ok (.iload_n 1, 1) := by decide +kernel
theorem dX6_first_32 : decode cX6_first 32 = .ok (.iload_n 3, 1) := by decide +kernel
theorem dX6_first_33 : decode cX6_first 33 = .ok (.invokevirtual 181, 3) := by decide +kernel
theorem dX6_first_36 : decode cX6_first 36 = .ok (.istore 4, 2) := by decide +kernel
theorem dX6_first_38 : decode cX6_first 38 = .ok (.iload 4, 2) := by decide +kernel
theorem dX6_first_40 : decode cX6_first 40 = .ok (.bipush (-9), 2) := by decide +kernel
theorem dX6_first_42 : decode cX6_first 42 = .ok (.if_icmp .eq 14, 3) := by decide +kernel
theorem dX6_first_45 : decode cX6_first 45 = .ok (.iload_n 2, 1) := by decide +kernel
theorem dX6_first_46 : decode cX6_first 46 = .ok (.ifCond .ne 7, 3) := by decide +kernel
theorem dX6_first_49 : decode cX6_first 49 = .ok (.iload_n 3, 1) := by decide +kernel
theorem dX6_first_50 : decode cX6_first 50 = .ok (.goto 5, 3) := by decide +kernel
theorem dX6_first_53 : decode cX6_first 53 = .ok (.iload 4, 2) := by decide +kernel
theorem dX6_first_55 : decode cX6_first 55 = .ok (.ireturn, 1) := by decide +kernel
theorem dX6_first_56 : decode cX6_first 56 = .ok (.iinc 3 1, 3) := by decide +kernel
theorem dX6_first_59 : decode cX6_first 59 = .ok (.goto (-35), 3) := by decide +kernel
theorem dX6_first_62 : decode cX6_first 62 = .ok (.bipush (-9), 2) := by decide +kernel
theorem dX6_first_64 : decode cX6_first 64 = .ok (.ireturn, 1) := by decide +kernel
theorem dX6_freed_0 : decode cX6_freed 0 = .ok (.aload_n 0, 1) := by decide +kernel
theorem dX6_freed_1 : decode cX6_freed 1 = .ok (.iload_n 1, 1) := by decide +kernel
theorem dX6_freed_2 : decode cX6_freed 2 = .ok (.iload_n 2, 1) := by decide +kernel
theorem dX6_freed_3 : decode cX6_freed 3 = .ok (.iload_n 3, 1) := by decide +kernel
theorem dX6_freed_4 : decode cX6_freed 4 = .ok (.invokevirtual 156, 3) := by decide +kernel
theorem dX6_freed_7 : decode cX6_freed 7 = .ok (.ifCond .ne 6, 3) := by decide +kernel
theorem dX6_freed_10 : decode cX6_freed 10 = .ok (.ldc 184, 2) := by decide +kernel
theorem dX6_freed_12 : decode cX6_freed 12 = .ok (.ireturn, 1) := by decide +kernel
theorem dX6_freed_13 : decode cX6_freed 13 = .ok (.aload_n 0, 1) := by decide +kernel
theorem dX6_freed_14 : decode cX6_freed 14 = .ok (.iload_n 1, 1) := by decide +kernel
theorem dX6_freed_15 : decode cX6_freed 15 = .ok (.aload_n 0, 1) := by decide +kernel
theorem dX6_freed_16 : decode cX6_freed 16 = .ok (.getfield 26, 3) := by decide +kernel
theorem dX6_freed_19 : decode cX6_freed 19 = .ok (.getfield 109, 3) := by decide +kernel
theorem dX6_freed_22 : decode cX6_freed 22 = .ok (.iload_n 1, 1) := by decide +kernel
theorem dX6_freed_23 : decode cX6_freed 23 = .ok (.iaload, 1) := by decide +kernel
theorem dX6_freed_24 : decode cX6_freed 24 = .ok (.aload_n 0, 1) := by decide +kernel
theorem dX6_freed_25 : decode cX6_freed 25 = .ok (.getfield 26, 3) := by decide +kernel
theorem dX6_freed_28 : decode cX6_freed 28 = .ok (.getfield 115, 3) := by decide +kernel
theorem dX6_freed_31 : decode cX6_freed 31 = .ok (.iload_n 1, 1) := by decide +kernel
theorem dX6_freed_32 : decode cX6_freed 32 = .ok (.iaload, 1) := by decide +kernel
theorem dX6_freed_33 : decode cX6_freed 33 = .ok (.invokevirtual 185, 3) := by decide +kernel
theorem dX6_freed_36 : decode cX6_freed 36 = .ok (.aload_n 0, 1) := by decide +kernel
theorem dX6_freed_37 : decode cX6_freed 37 = .ok (.iload_n 1, 1) := by decide +kernel
theorem dX6_freed_38 : decode cX6_freed 38 = .ok (.iload_n 2, 1) := by decide +kernel
theorem dX6_freed_39 : decode cX6_freed 39 = .ok (.iload_n 3, 1) := by decide +kernel
theorem dX6_freed_40 : decode cX6_freed 40 = .ok (.invokevirtual 185, 3) := by decide +kernel
theorem dX6_freed_43 : decode cX6_freed 43 = .ok (.isub, 1) := by decide +kernel
theorem dX6_freed_44 : decode cX6_freed 44 = .ok (.ireturn, 1) := by decide +kernel
theorem dX6_bestJump_0 : decode cX6_bestJump 0 = .ok (.aload_n 0, 1) := by decide +kernel
theorem dX6_bestJump_1 : decode cX6_bestJump 1 = .ok (.getfield 19, 3) := by decide +kernel
theorem dX6_bestJump_4 : decode cX6_bestJump 4 = .ok (.iload_n 1, 1) := by decide +kernel
theorem dX6_bestJump_5 : decode cX6_bestJump 5 = .ok (.invokevirtual 106, 3) := by decide +kernel
theorem dX6_bestJump_8 : decode cX6_bestJump 8 = .ok (.ifCond .eq 12, 3) := by decide +kernel
theorem dX6_bestJump_11 : decode cX6_bestJump 11 = .ok (.iload_n 2, 1) := by decide +kernel
theorem dX6_bestJump_12 : decode cX6_bestJump 12 = .ok (.iconst 0, 1) := by decide +kernel
theorem dX6_bestJump_13 : decode cX6_bestJump 13 = .ok (.iconst 1, 1) := by decide +kernel
theorem dX6_bestJump_14 : decode cX6_bestJump 14 = .ok (.invokestatic 70, 3) := by decide +kernel
theorem dX6_bestJump_17 : decode cX6_bestJump 17 = .ok (.ifCond .ne 5, 3) := by decide +kernel
theorem dX6_bestJump_20 : decode cX6_bestJump 20 = .ok (.iconst (-1), 1) := by decide +kernel
theorem dX6_bestJump_21 : decode cX6_bestJump 21 = .ok (.ireturn, 1) := by decide +kernel
theorem dX6_bestJump_22 : decode cX6_bestJump 22 = .ok (.iconst 1, 1) := by decide +kernel
theorem dX6_bestJump_23 : decode cX6_bestJump 23 = .ok (.istore_n 3, 1) := by decide +kernel
theorem dX6_bestJump_24 : decode cX6_bestJump 24 = .ok (.aload_n 0, 1) := by decide +kernel
theorem dX6_bestJump_25 : decode cX6_bestJump 25 = .ok (.iload_n 1, 1) := by decide +kernel
theorem dX6_bestJump_26 : decode cX6_bestJump 26 = .ok (.iconst 1, 1) := by decide +kernel
theorem dX6_bestJump_27 : decode cX6_bestJump 27 = .ok (.invokevirtual 188, 3) := by decide +kernel
theorem dX6_bestJump_30 : decode cX6_bestJump 30 = .ok (.istore 4, 2) := by decide +kernel
theorem dX6_bestJump_32 : decode cX6_bestJump 32 = .ok (.iconst 2, 1) := by decide +kernel
theorem dX6_bestJump_33 : decode cX6_bestJump 33 = .ok (.istore 5, 2) := by decide +kernel
theorem dX6_bestJump_35 : decode cX6_bestJump 35 = .ok (.iload 5, 2) := by decide +kernel
theorem dX6_bestJump_37 : decode cX6_bestJump 37 = .ok (.aload_n 0, 1) := by decide +kernel
theorem dX6_bestJump_38 : decode cX6_bestJump 38 = .ok (.getfield 19, 3) := by decide +kernel
theorem dX6_bestJump_41 : decode cX6_bestJump 41 = .ok (.getfield 112, 3) := by decide +kernel
theorem dX6_bestJump_44 : decode cX6_bestJump 44 = .ok (.iload_n 1, 1) := by decide +kernel
theorem dX6_bestJump_45 : decode cX6_bestJump 45 = .ok (.iaload, 1) := by decide +kernel
theorem dX6_bestJump_46 : decode cX6_bestJump 46 = .ok (.if_icmp .gt 32, 3) := by decide +kernel
theorem dX6_bestJump_49 : decode cX6_bestJump 49 = .ok (.aload_n 0, 1) := by decide +kernel
theorem dX6_bestJump_50 : decode cX6_bestJump 50 = .ok (.iload_n 1, 1) := by decide +kernel
theorem dX6_bestJump_51 : decode cX6_bestJump 51 = .ok (.iload 5, 2) := by decide +kernel
theorem dX6_bestJump_53 : decode cX6_bestJump 53 = .ok (.invokevirtual 188, 3) := by decide +kernel
theorem dX6_bestJump_56 : decode cX6_bestJump 56 = .ok (.istore 6, 2) := by decide +kernel
theorem dX6_bestJump_58 : decode cX6_bestJump 58 = .ok (.iload 6, 2) := by decide +kernel
theorem dX6_bestJump_60 : decode cX6_bestJump 60 = .ok (.iload 4, 2) := by decide +kernel
theorem dX6_bestJump_62 : decode cX6_bestJump 62 = .ok (.if_icmp .ge 10, 3) := by decide +kernel
theorem dX6_bestJump_65 : decode cX6_bestJump 65 = .ok (.iload 5, 2) := by decide +kernel
theorem dX6_bestJump_67 : decode cX6_bestJump 67 = .ok (.istore_n 3, 1) := by decide +kernel
theorem dX6_bestJump_68 : decode cX6_bestJump 68 = .ok (.iload 6, 2) := by decide +kernel
theorem dX6_bestJump_70 : decode cX6_bestJump 70 = .ok (.istore 4, 2) := by decide +kernel
theorem dX6_bestJump_72 : decode cX6_bestJump 72 = .ok (.iinc 5 1, 3) := by decide +kernel
theorem dX6_bestJump_75 : decode cX6_bestJump 75 = .ok (.goto (-40), 3) := by decide +kernel
theorem dX6_bestJump_78 : decode cX6_bestJump 78 = .ok (.iload_n 2, 1) := by decide +kernel
theorem dX6_bestJump_79 : decode cX6_bestJump 79 = .ok (.ifCond .ne 7, 3) := by decide +kernel
theorem dX6_bestJump_82 : decode cX6_bestJump 82 = .ok (.iload_n 3, 1) := by decide +kernel
theorem dX6_bestJump_83 : decode cX6_bestJump 83 = .ok (.goto 5, 3) := by decide +kernel
theorem dX6_bestJump_86 : decode cX6_bestJump 86 = .ok (.iload 4, 2) := by decide +kernel
theorem dX6_bestJump_88 : decode cX6_bestJump 88 = .ok (.ireturn, 1) := by decide +kernel
theorem dX6_plans_0 : decode cX6_plans 0 = .ok (.aload_n 0, 1) := by decide +kernel
theorem dX6_plans_1 : decode cX6_plans 1 = .ok (.getfield 19, 3) := by decide +kernel
theorem dX6_plans_4 : decode cX6_plans 4 = .ok (.iload_n 1, 1) := by decide +kernel
theorem dX6_plans_5 : decode cX6_plans 5 = .ok (.invokevirtual 106, 3) := by decide +kernel
theorem dX6_plans_8 : decode cX6_plans 8 = .ok (.ifCond .eq 14, 3) := by decide +kernel
theorem dX6_plans_11 : decode cX6_plans 11 = .ok (.iload_n 2, 1) := by decide +kernel
theorem dX6_plans_12 : decode cX6_plans 12 = .ok (.bipush (-9), 2) := by decide +kernel
theorem dX6_plans_14 : decode cX6_plans 14 = .ok (.bipush 9, 2) := by decide +kernel
theorem dX6_plans_16 : decode cX6_plans 16 = .ok (.invokestatic 70, 3) := by decide +kernel
theorem dX6_plans_19 : decode cX6_plans 19 = .ok (.ifCond .ne 5, 3) := by decide +kernel
theorem dX6_plans_22 : decode cX6_plans 22 = .ok (.iconst (-1), 1) := by decide +kernel
theorem dX6_plans_23 : decode cX6_plans 23 = .ok (.ireturn, 1) := by decide +kernel
theorem dX6_plans_24 : decode cX6_plans 24 = .ok (.aload_n 0, 1) := by decide +kernel
theorem dX6_plans_25 : decode cX6_plans 25 = .ok (.getfield 48, 3) := by decide +kernel
theorem dX6_plans_28 : decode cX6_plans 28 = .ok (.iload_n 1, 1) := by decide +kernel
theorem dX6_plans_29 : decode cX6_plans 29 = .ok (.iload_n 2, 1) := by decide +kernel
theorem dX6_plans_30 : decode cX6_plans 30 = .ok (.invokevirtual 191, 3) := by decide +kernel
theorem dX6_plans_33 : decode cX6_plans 33 = .ok (.ifCond .eq 13, 3) := by decide +kernel
theorem dX6_plans_36 : decode cX6_plans 36 = .ok (.aload_n 0, 1) := by decide +kernel
theorem dX6_plans_37 : decode cX6_plans 37 = .ok (.getfield 48, 3) := by decide +kernel
theorem dX6_plans_40 : decode cX6_plans 40 = .ok (.getfield 102, 3) := by decide +kernel
theorem dX6_plans_43 : decode cX6_plans 43 = .ok (.goto 5, 3) := by decide +kernel
theorem dX6_plans_46 : decode cX6_plans 46 = .ok (.bipush (-3), 2) := by decide +kernel
theorem dX6_plans_48 : decode cX6_plans 48 = .ok (.ireturn, 1) := by decide +kernel
theorem dX6_drop_0 : decode cX6_drop 0 = .ok (.aload_n 0, 1) := by decide +kernel
theorem dX6_drop_1 : decode cX6_drop 1 = .ok (.getfield 48, 3) := by decide +kernel
theorem dX6_drop_4 : decode cX6_drop 4 = .ok (.getfield 102, 3) := by decide +kernel
theorem dX6_drop_7 : decode cX6_drop 7 = .ok (.istore_n 1, 1) := by decide +kernel
theorem dX6_drop_8 : decode cX6_drop 8 = .ok (.aload_n 0, 1) := by decide +kernel
theorem dX6_drop_9 : decode cX6_drop 9 = .ok (.getfield 48, 3) := by decide +kernel
theorem dX6_drop_12 : decode cX6_drop 12 = .ok (.iconst 0, 1) := by decide +kernel
theorem dX6_drop_13 : decode cX6_drop 13 = .ok (.putfield 102, 3) := by decide +kernel
theorem dX6_drop_16 : decode cX6_drop 16 = .ok (.iload_n 1, 1) := by decide +kernel
theorem dX6_drop_17 : decode cX6_drop 17 = .ok (.ireturn, 1) := by decide +kernel
theorem dX6_orders_0 : decode cX6_orders 0 = .ok (.aload_n 0, 1) := by decide +kernel
theorem dX6_orders_1 : decode cX6_orders 1 = .ok (.getfield 19, 3) := by decide +kernel
theorem dX6_orders_4 : decode cX6_orders 4 = .ok (.iload_n 1, 1) := by decide +kernel
theorem dX6_orders_5 : decode cX6_orders 5 = .ok (.invokevirtual 118, 3) := by decide +kernel
theorem dX6_orders_8 : decode cX6_orders 8 = .ok (.ifCond .eq 8, 3) := by decide +kernel
theorem dX6_orders_11 : decode cX6_orders 11 = .ok (.iload_n 2, 1) := by decide +kernel
theorem dX6_orders_12 : decode cX6_orders 12 = .ok (.iconst (-1), 1) := by decide +kernel
theorem dX6_orders_13 : decode cX6_orders 13 = .ok (.if_icmp .ge 5, 3) := by decide +kernel
theorem dX6_orders_16 : decode cX6_orders 16 = .ok (.iconst (-1), 1) := by decide +kernel
theorem dX6_orders_17 : decode cX6_orders 17 = .ok (.ireturn, 1) := by decide +kernel
theorem dX6_orders_18 : decode cX6_orders 18 = .ok (.aload_n 0, 1) := by decide +kernel
theorem dX6_orders_19 : decode cX6_orders 19 = .ok (.iload_n 1, 1) := by decide +kernel
theorem dX6_orders_20 : decode cX6_orders 20 = .ok (.bipush (-9), 2) := by decide +kernel
theorem dX6_orders_22 : decode cX6_orders 22 = .ok (.invokevirtual 194, 3) := by decide +kernel
theorem dX6_orders_25 : decode cX6_orders 25 = .ok (.istore_n 3, 1) := by decide +kernel
theorem dX6_orders_26 : decode cX6_orders 26 = .ok (.iload_n 2, 1) := by decide +kernel
theorem dX6_orders_27 : decode cX6_orders 27 = .ok (.iconst (-1), 1) := by decide +kernel
theorem dX6_orders_28 : decode cX6_orders 28 = .ok (.if_icmp .ne 5, 3) := by decide +kernel
theorem dX6_orders_31 : decode cX6_orders 31 = .ok (.iload_n 3, 1) := by decide +kernel
theorem dX6_orders_32 : decode cX6_orders 32 = .ok (.ireturn, 1) := by decide +kernel
theorem dX6_orders_33 : decode cX6_orders 33 = .ok (.iload_n 3, 1) := by decide +kernel
theorem dX6_orders_34 : decode cX6_orders 34 = .ok (.ifCond .ne 6, 3) := by decide +kernel
theorem dX6_orders_37 : decode cX6_orders 37 = .ok (.bipush (-9), 2) := by decide +kernel
theorem dX6_orders_39 : decode cX6_orders 39 = .ok (.ireturn, 1) := by decide +kernel
theorem dX6_orders_40 : decode cX6_orders 40 = .ok (.iload_n 2, 1) := by decide +kernel
theorem dX6_orders_41 : decode cX6_orders 41 = .ok (.aload_n 0, 1) := by decide +kernel
theorem dX6_orders_42 : decode cX6_orders 42 = .ok (.getfield 48, 3) := by decide +kernel
theorem dX6_orders_45 : decode cX6_orders 45 = .ok (.getfield 102, 3) := by decide +kernel
theorem dX6_orders_48 : decode cX6_orders 48 = .ok (.if_icmp .ge 15, 3) := by decide +kernel
theorem dX6_orders_51 : decode cX6_orders 51 = .ok (.aload_n 0, 1) := by decide +kernel
theorem dX6_orders_52 : decode cX6_orders 52 = .ok (.getfield 48, 3) := by decide +kernel
theorem dX6_orders_55 : decode cX6_orders 55 = .ok (.getfield 197, 3) := by decide +kernel
theorem dX6_orders_58 : decode cX6_orders 58 = .ok (.iload_n 2, 1) := by decide +kernel
theorem dX6_orders_59 : decode cX6_orders 59 = .ok (.iaload, 1) := by decide +kernel
theorem dX6_orders_60 : decode cX6_orders 60 = .ok (.goto 5, 3) := by decide +kernel
theorem dX6_orders_63 : decode cX6_orders 63 = .ok (.bipush (-5), 2) := by decide +kernel
theorem dX6_orders_65 : decode cX6_orders 65 = .ok (.ireturn, 1) := by decide +kernel
theorem dX6_bars_0 : decode cX6_bars 0 = .ok (.aload_n 0, 1) := by decide +kernel
theorem dX6_bars_1 : decode cX6_bars 1 = .ok (.getfield 19, 3) := by decide +kernel
theorem dX6_bars_4 : decode cX6_bars 4 = .ok (.iload_n 1, 1) := by decide +kernel
theorem dX6_bars_5 : decode cX6_bars 5 = .ok (.invokevirtual 118, 3) := by decide +kernel
theorem dX6_bars_8 : decode cX6_bars 8 = .ok (.ifCond .ne 5, 3) := by decide +kernel
theorem dX6_bars_11 : decode cX6_bars 11 = .ok (.iconst (-1), 1) := by decide +kernel
theorem dX6_bars_12 : decode cX6_bars 12 = .ok (.ireturn, 1) := by decide +kernel
theorem dX6_bars_13 : decode cX6_bars 13 = .ok (.aload_n 0, 1) := by decide +kernel
theorem dX6_bars_14 : decode cX6_bars 14 = .ok (.iload_n 1, 1) := by decide +kernel
theorem dX6_bars_15 : decode cX6_bars 15 = .ok (.bipush (-9), 2) := by decide +kernel
theorem dX6_bars_17 : decode cX6_bars 17 = .ok (.invokevirtual 194, 3) := by decide +kernel
theorem dX6_bars_20 : decode cX6_bars 20 = .ok (.ifCond .le 6, 3) := by decide +kernel
theorem dX6_bars_23 : decode cX6_bars 23 = .ok (.bipush (-9), 2) := by decide +kernel
theorem dX6_bars_25 : decode cX6_bars 25 = .ok (.ireturn, 1) := by decide +kernel
theorem dX6_bars_26 : decode cX6_bars 26 = .ok (.iconst 0, 1) := by decide +kernel
theorem dX6_bars_27 : decode cX6_bars 27 = .ok (.istore_n 2, 1) := by decide +kernel
theorem dX6_bars_28 : decode cX6_bars 28 = .ok (.iload_n 2, 1) := by decide +kernel
theorem dX6_bars_29 : decode cX6_bars 29 = .ok (.aload_n 0, 1) := by decide +kernel
theorem dX6_bars_30 : decode cX6_bars 30 = .ok (.getfield 48, 3) := by decide +kernel
theorem dX6_bars_33 : decode cX6_bars 33 = .ok (.getfield 102, 3) := by decide +kernel
theorem dX6_bars_36 : decode cX6_bars 36 = .ok (.if_icmp .ge 20, 3) := by decide +kernel
theorem dX6_bars_39 : decode cX6_bars 39 = .ok (.aload_n 0, 1) := by decide +kernel
theorem dX6_bars_40 : decode cX6_bars 40 = .ok (.iload_n 1, 1) := by decide +kernel
theorem dX6_bars_41 : decode cX6_bars 41 = .ok (.iload_n 2, 1) := by decide +kernel
theorem dX6_bars_42 : decode cX6_bars 42 = .ok (.invokevirtual 194, 3) := by decide +kernel
theorem dX6_bars_45 : decode cX6_bars 45 = .ok (.ifCond .le 5, 3) := by decide +kernel
theorem dX6_bars_48 : decode cX6_bars 48 = .ok (.iload_n 2, 1) := by decide +kernel
theorem dX6_bars_49 : decode cX6_bars 49 = .ok (.ireturn, 1) := by decide +kernel
theorem dX6_bars_50 : decode cX6_bars 50 = .ok (.iinc 2 1, 3) := by decide +kernel
theorem dX6_bars_53 : decode cX6_bars 53 = .ok (.goto (-25), 3) := by decide +kernel
theorem dX6_bars_56 : decode cX6_bars 56 = .ok (.bipush (-9), 2) := by decide +kernel
theorem dX6_bars_58 : decode cX6_bars 58 = .ok (.ireturn, 1) := by decide +kernel
theorem dX6_trip_0 : decode cX6_trip 0 = .ok (.aload_n 0, 1) := by decide +kernel
theorem dX6_trip_1 : decode cX6_trip 1 = .ok (.getfield 19, 3) := by decide +kernel
theorem dX6_trip_4 : decode cX6_trip 4 = .ok (.iload_n 1, 1) := by decide +kernel
theorem dX6_trip_5 : decode cX6_trip 5 = .ok (.invokevirtual 106, 3) := by decide +kernel
theorem dX6_trip_8 : decode cX6_trip 8 = .ok (.ifCond .eq 35, 3) := by decide +kernel
theorem dX6_trip_11 : decode cX6_trip 11 = .ok (.aload_n 0, 1) := by decide +kernel
theorem dX6_trip_12 : decode cX6_trip 12 = .ok (.getfield 19, 3) := by decide +kernel
theorem dX6_trip_15 : decode cX6_trip 15 = .ok (.iload_n 2, 1) := by decide +kernel
theorem dX6_trip_16 : decode cX6_trip 16 = .ok (.invokevirtual 138, 3) := by decide +kernel
theorem dX6_trip_19 : decode cX6_trip 19 = .ok (.ifCond .eq 24, 3) := by decide +kernel
theorem dX6_trip_22 : decode cX6_trip 22 = .ok (.aload_n 0, 1) := by decide +kernel
theorem dX6_trip_23 : decode cX6_trip 23 = .ok (.getfield 19, 3) := by decide +kernel
theorem dX6_trip_26 : decode cX6_trip 26 = .ok (.iload_n 3, 1) := by decide +kernel
theorem dX6_trip_27 : decode cX6_trip 27 = .ok (.invokevirtual 138, 3) := by decide +kernel
theorem dX6_trip_30 : decode cX6_trip 30 = .ok (.ifCond .eq 13, 3) := by decide +kernel
theorem dX6_trip_33 : decode cX6_trip 33 = .ok (.iload 4, 2) := by decide +kernel
theorem dX6_trip_35 : decode cX6_trip 35 = .ok (.iconst 0, 1) := by decide +kernel
theorem dX6_trip_36 : decode cX6_trip 36 = .ok (.iconst 1, 1) := by decide +kernel
theorem dX6_trip_37 : decode cX6_trip 37 = .ok (.invokestatic 70, 3) := by decide +kernel
theorem dX6_trip_40 : decode cX6_trip 40 = .ok (.ifCond .ne 5, 3) := by decide +kernel
theorem dX6_trip_43 : decode cX6_trip 43 = .ok (.iconst (-1), 1) := by decide +kernel
theorem dX6_trip_44 : decode cX6_trip 44 = .ok (.ireturn, 1) := by decide +kernel
theorem dX6_trip_45 : decode cX6_trip 45 = .ok (.aload_n 0, 1) := by decide +kernel
theorem dX6_trip_46 : decode cX6_trip 46 = .ok (.iload_n 3, 1) := by decide +kernel
theorem dX6_trip_47 : decode cX6_trip 47 = .ok (.iload_n 1, 1) := by decide +kernel
theorem dX6_trip_48 : decode cX6_trip 48 = .ok (.invokevirtual 200, 3) := by decide +kernel
theorem dX6_trip_51 : decode cX6_trip 51 = .ok (.iload 4, 2) := by decide +kernel
theorem dX6_trip_53 : decode cX6_trip 53 = .ok (.ifCond .eq 14, 3) := by decide +kernel
theorem dX6_trip_56 : decode cX6_trip 56 = .ok (.aload_n 0, 1) := by decide +kernel
theorem dX6_trip_57 : decode cX6_trip 57 = .ok (.getfield 59, 3) := by decide +kernel
theorem dX6_trip_60 : decode cX6_trip 60 = .ok (.iload_n 2, 1) := by decide +kernel
theorem dX6_trip_61 : decode cX6_trip 61 = .ok (.iaload, 1) := by decide +kernel
theorem dX6_trip_62 : decode cX6_trip 62 = .ok (.bipush (-9), 2) := by decide +kernel
theorem dX6_trip_64 : decode cX6_trip 64 = .ok (.if_icmp .ne 10, 3) := by decide +kernel
theorem dX6_trip_67 : decode cX6_trip 67 = .ok (.aload_n 0, 1) := by decide +kernel
theorem dX6_trip_68 : decode cX6_trip 68 = .ok (.getfield 59, 3) := by decide +kernel
theorem dX6_trip_71 : decode cX6_trip 71 = .ok (.iload_n 2, 1) := by decide +kernel
theorem dX6_trip_72 : decode cX6_trip 72 = .ok (.iaload, 1) := by decide +kernel
theorem dX6_trip_73 : decode cX6_trip 73 = .ok (.ireturn, 1) := by decide +kernel
theorem dX6_trip_74 : decode cX6_trip 74 = .ok (.aload_n 0, 1) := by decide +kernel
theorem dX6_trip_75 : decode cX6_trip 75 = .ok (.iload_n 2, 1) := by decide +kernel
theorem dX6_trip_76 : decode cX6_trip 76 = .ok (.iload_n 1, 1) := by decide +kernel
theorem dX6_trip_77 : decode cX6_trip 77 = .ok (.invokevirtual 204, 3) := by decide +kernel
theorem dX6_trip_80 : decode cX6_trip 80 = .ok (.ireturn, 1) := by decide +kernel
theorem dX6_parts_0 : decode cX6_parts 0 = .ok (.aload_n 0, 1) := by decide +kernel
theorem dX6_parts_1 : decode cX6_parts 1 = .ok (.getfield 19, 3) := by decide +kernel
theorem dX6_parts_4 : decode cX6_parts 4 = .ok (.iload_n 1, 1) := by decide +kernel
theorem dX6_parts_5 : decode cX6_parts 5 = .ok (.invokevirtual 106, 3) := by decide +kernel
theorem dX6_parts_8 : decode cX6_parts 8 = .ok (.ifCond .eq 22, 3) := by decide +kernel
theorem dX6_parts_11 : decode cX6_parts 11 = .ok (.iload_n 2, 1) := by decide +kernel
theorem dX6_parts_12 : decode cX6_parts 12 = .ok (.iconst 1, 1) := by decide +kernel
theorem dX6_parts_13 : decode cX6_parts 13 = .ok (.bipush 99, 2) := by decide +kernel
theorem dX6_parts_15 : decode cX6_parts 15 = .ok (.invokestatic 70, 3) := by decide +kernel
theorem dX6_parts_18 : decode cX6_parts 18 = .ok (.ifCond .eq 12, 3) := by decide +kernel
theorem dX6_parts_21 : decode cX6_parts 21 = .ok (.iload_n 3, 1) := by decide +kernel
theorem dX6_parts_22 : decode cX6_parts 22 = .ok (.iconst 0, 1) := by decide +kernel
theorem dX6_parts_23 : decode cX6_parts 23 = .ok (.iconst 1, 1) := by decide +kernel
theorem dX6_parts_24 : decode cX6_parts 24 = .ok (.invokestatic 70, 3) := by decide +kernel
theorem dX6_parts_27 : decode cX6_parts 27 = .ok (.ifCond .ne 5, 3) := by decide +kernel
theorem dX6_parts_30 : decode cX6_parts 30 = .ok (.iconst (-1), 1) := by decide +kernel
theorem dX6_parts_31 : decode cX6_parts 31 = .ok (.ireturn, 1) := by decide +kernel
theorem dX6_parts_32 : decode cX6_parts 32 = .ok (.aload_n 0, 1) := by decide +kernel
theorem dX6_parts_33 : decode cX6_parts 33 = .ok (.getfield 63, 3) := by decide +kernel
theorem dX6_parts_36 : decode cX6_parts 36 = .ok (.iconst 0, 1) := by decide +kernel
theorem dX6_parts_37 : decode cX6_parts 37 = .ok (.iconst 0, 1) := by decide +kernel
theorem dX6_parts_38 : decode cX6_parts 38 = .ok (.iastore, 1) := by decide +kernel
theorem dX6_parts_39 : decode cX6_parts 39 = .ok (.iconst 1, 1) := by decide +kernel
theorem dX6_parts_40 : decode cX6_parts 40 = .ok (.istore 4, 2) := by decide +kernel
theorem dX6_parts_42 : decode cX6_parts 42 = .ok (.iload 4, 2) := by decide +kernel
theorem dX6_parts_44 : decode cX6_parts 44 = .ok (.iload_n 2, 1) := by decide +kernel
theorem dX6_parts_45 : decode cX6_parts 45 = .ok (.if_icmp .gt 23, 3) := by decide +kernel
theorem dX6_parts_48 : decode cX6_parts 48 = .ok (.aload_n 0, 1) := by decide +kernel
theorem dX6_parts_49 : decode cX6_parts 49 = .ok (.getfield 63, 3) := by decide +kernel
theorem dX6_parts_52 : decode cX6_parts 52 = .ok (.iload 4, 2) := by decide +kernel
theorem dX6_parts_54 : decode cX6_parts 54 = .ok (.aload_n 0, 1) := by decide +kernel
theorem dX6_parts_55 : decode cX6_parts 55 = .ok (.iload 4, 2) := by decide +kernel
theorem dX6_parts_57 : decode cX6_parts 57 = .ok (.iload_n 1, 1) := by decide +kernel
theorem dX6_parts_58 : decode cX6_parts 58 = .ok (.invokevirtual 207, 3) := by decide +kernel
theorem dX6_parts_61 : decode cX6_parts 61 = .ok (.iastore, 1) := by decide +kernel
theorem dX6_parts_62 : decode cX6_parts 62 = .ok (.iinc 4 1, 3) := by decide +kernel
theorem dX6_parts_65 : decode cX6_parts 65 = .ok (.goto (-23), 3) := by decide +kernel
theorem dX6_parts_68 : decode cX6_parts 68 = .ok (.iload_n 3, 1) := by decide +kernel
theorem dX6_parts_69 : decode cX6_parts 69 = .ok (.ifCond .eq 14, 3) := by decide +kernel
theorem dX6_parts_72 : decode cX6_parts 72 = .ok (.aload_n 0, 1) := by decide +kernel
theorem dX6_parts_73 : decode cX6_parts 73 = .ok (.getfield 63, 3) := by decide +kernel
theorem dX6_parts_76 : decode cX6_parts 76 = .ok (.iload_n 2, 1) := by decide +kernel
theorem dX6_parts_77 : decode cX6_parts 77 = .ok (.iaload, 1) := by decide +kernel
theorem dX6_parts_78 : decode cX6_parts 78 = .ok (.bipush (-9), 2) := by decide +kernel
theorem dX6_parts_80 : decode cX6_parts 80 = .ok (.if_icmp .ne 10, 3) := by decide +kernel
theorem dX6_parts_83 : decode cX6_parts 83 = .ok (.aload_n 0, 1) := by decide +kernel
theorem dX6_parts_84 : decode cX6_parts 84 = .ok (.getfield 63, 3) := by decide +kernel
theorem dX6_parts_87 : decode cX6_parts 87 = .ok (.iload_n 2, 1) := by decide +kernel
theorem dX6_parts_88 : decode cX6_parts 88 = .ok (.iaload, 1) := by decide +kernel
theorem dX6_parts_89 : decode cX6_parts 89 = .ok (.ireturn, 1) := by decide +kernel
theorem dX6_parts_90 : decode cX6_parts 90 = .ok (.aload_n 0, 1) := by decide +kernel
theorem dX6_parts_91 : decode cX6_parts 91 = .ok (.iload_n 2, 1) := by decide +kernel
theorem dX6_parts_92 : decode cX6_parts 92 = .ok (.iload_n 1, 1) := by decide +kernel
theorem dX6_parts_93 : decode cX6_parts 93 = .ok (.invokevirtual 210, 3) := by decide +kernel
theorem dX6_parts_96 : decode cX6_parts 96 = .ok (.ireturn, 1) := by decide +kernel
theorem dX6_books_0 : decode cX6_books 0 = .ok (.aload_n 0, 1) := by decide +kernel
theorem dX6_books_1 : decode cX6_books 1 = .ok (.getfield 19, 3) := by decide +kernel
theorem dX6_books_4 : decode cX6_books 4 = .ok (.iload_n 1, 1) := by decide +kernel
theorem dX6_books_5 : decode cX6_books 5 = .ok (.invokevirtual 106, 3) := by decide +kernel
theorem dX6_books_8 : decode cX6_books 8 = .ok (.ifCond .eq 22, 3) := by decide +kernel
theorem dX6_books_11 : decode cX6_books 11 = .ok (.iload_n 2, 1) := by decide +kernel
theorem dX6_books_12 : decode cX6_books 12 = .ok (.iconst 0, 1) := by decide +kernel
theorem dX6_books_13 : decode cX6_books 13 = .ok (.bipush 60, 2) := by decide +kernel
theorem dX6_books_15 : decode cX6_books 15 = .ok (.invokestatic 70, 3) := by decide +kernel
theorem dX6_books_18 : decode cX6_books 18 = .ok (.ifCond .eq 12, 3) := by decide +kernel
theorem dX6_books_21 : decode cX6_books 21 = .ok (.iload_n 3, 1) := by decide +kernel
theorem dX6_books_22 : decode cX6_books 22 = .ok (.iconst 0, 1) := by decide +kernel
theorem dX6_books_23 : decode cX6_books 23 = .ok (.iconst 3, 1) := by decide +kernel
theorem dX6_books_24 : decode cX6_books 24 = .ok (.invokestatic 70, 3) := by decide +kernel
theorem dX6_books_27 : decode cX6_books 27 = .ok (.ifCond .ne 5, 3) := by decide +kernel
theorem dX6_books_30 : decode cX6_books 30 = .ok (.iconst (-1), 1) := by decide +kernel
theorem dX6_books_31 : decode cX6_books 31 = .ok (.ireturn, 1) := by decide +kernel
theorem dX6_books_32 : decode cX6_books 32 = .ok (.aload_n 0, 1) := by decide +kernel
theorem dX6_books_33 : decode cX6_books 33 = .ok (.getfield 55, 3) := by decide +kernel
theorem dX6_books_36 : decode cX6_books 36 = .ok (.iload_n 1, 1) := by decide +kernel
theorem dX6_books_37 : decode cX6_books 37 = .ok (.iload_n 2, 1) := by decide +kernel
theorem dX6_books_38 : decode cX6_books 38 = .ok (.iload_n 3, 1) := by decide +kernel
theorem dX6_books_39 : decode cX6_books 39 = .ok (.invokevirtual 213, 3) := by decide +kernel
theorem dX6_books_42 : decode cX6_books 42 = .ok (.ifCond .eq 13, 3) := by decide +kernel
theorem dX6_books_45 : decode cX6_books 45 = .ok (.aload_n 0, 1) := by decide +kernel
theorem dX6_books_46 : decode cX6_books 46 = .ok (.getfield 55, 3) := by decide +kernel
theorem dX6_books_49 : decode cX6_books 49 = .ok (.getfield 105, 3) := by decide +kernel
theorem dX6_books_52 : decode cX6_books 52 = .ok (.goto 5, 3) := by decide +kernel
theorem dX6_books_55 : decode cX6_books 55 = .ok (.bipush (-3), 2) := by decide +kernel
theorem dX6_books_57 : decode cX6_books 57 = .ok (.ireturn, 1) := by decide +kernel
theorem dX6_burn_0 : decode cX6_burn 0 = .ok (.aload_n 0, 1) := by decide +kernel
theorem dX6_burn_1 : decode cX6_burn 1 = .ok (.getfield 55, 3) := by decide +kernel
theorem dX6_burn_4 : decode cX6_burn 4 = .ok (.getfield 105, 3) := by decide +kernel
theorem dX6_burn_7 : decode cX6_burn 7 = .ok (.istore_n 1, 1) := by decide +kernel
theorem dX6_burn_8 : decode cX6_burn 8 = .ok (.aload_n 0, 1) := by decide +kernel
theorem dX6_burn_9 : decode cX6_burn 9 = .ok (.getfield 55, 3) := by decide +kernel
theorem dX6_burn_12 : decode cX6_burn 12 = .ok (.iconst 0, 1) := by decide +kernel
theorem dX6_burn_13 : decode cX6_burn 13 = .ok (.putfield 105, 3) := by decide +kernel
theorem dX6_burn_16 : decode cX6_burn 16 = .ok (.iload_n 1, 1) := by decide +kernel
theorem dX6_burn_17 : decode cX6_burn 17 = .ok (.ireturn, 1) := by decide +kernel
theorem dX6_fits_0 : decode cX6_fits 0 = .ok (.aload_n 0, 1) := by decide +kernel
theorem dX6_fits_1 : decode cX6_fits 1 = .ok (.getfield 19, 3) := by decide +kernel
theorem dX6_fits_4 : decode cX6_fits 4 = .ok (.iload_n 1, 1) := by decide +kernel
theorem dX6_fits_5 : decode cX6_fits 5 = .ok (.invokevirtual 106, 3) := by decide +kernel
theorem dX6_fits_8 : decode cX6_fits 8 = .ok (.ifCond .ne 5, 3) := by decide +kernel
theorem dX6_fits_11 : decode cX6_fits 11 = .ok (.iconst (-1), 1) := by decide +kernel
theorem dX6_fits_12 : decode cX6_fits 12 = .ok (.ireturn, 1) := by decide +kernel
theorem dX6_fits_13 : decode cX6_fits 13 = .ok (.iconst 0, 1) := by decide +kernel
theorem dX6_fits_14 : decode cX6_fits 14 = .ok (.istore_n 2, 1) := by decide +kernel
theorem dX6_fits_15 : decode cX6_fits 15 = .ok (.iconst 0, 1) := by decide +kernel
theorem dX6_fits_16 : decode cX6_fits 16 = .ok (.istore_n 3, 1) := by decide +kernel
theorem dX6_fits_17 : decode cX6_fits 17 = .ok (.iload_n 3, 1) := by decide +kernel
theorem dX6_fits_18 : decode cX6_fits 18 = .ok (.aload_n 0, 1) := by decide +kernel
theorem dX6_fits_19 : decode cX6_fits 19 = .ok (.getfield 19, 3) := by decide +kernel
theorem dX6_fits_22 : decode cX6_fits 22 = .ok (.getfield 112, 3) := by decide +kernel
theorem dX6_fits_25 : decode cX6_fits 25 = .ok (.iload_n 1, 1) := by decide +kernel
theorem dX6_fits_26 : decode cX6_fits 26 = .ok (.iaload, 1) := by decide +kernel
theorem dX6_fits_27 : decode cX6_fits 27 = .ok (.if_icmp .gt 39, 3) := by decide +kernel
theorem dX6_fits_30 : decode cX6_fits 30 = .ok (.bipush (-3), 2) := by decide +kernel
theorem dX6_fits_32 : decode cX6_fits 32 = .ok (.istore 4, 2) := by decide +kernel
theorem dX6_fits_34 : decode cX6_fits 34 = .ok (.iload 4, 2) := by decide +kernel
theorem dX6_fits_36 : decode cX6_fits 36 = .ok (.iconst 3, 1) := by decide +kernel
theorem dX6_fits_37 : decode cX6_fits 37 = .ok (.if_icmp .gt 23, 3) := by decide +kernel
theorem dX6_fits_40 : decode cX6_fits 40 = .ok (.aload_n 0, 1) := by decide +kernel
theorem dX6_fits_41 : decode cX6_fits 41 = .ok (.iload_n 1, 1) := by decide +kernel
theorem dX6_fits_42 : decode cX6_fits 42 = .ok (.iload_n 3, 1) := by decide +kernel
theorem dX6_fits_43 : decode cX6_fits 43 = .ok (.iload 4, 2) := by decide +kernel
theorem dX6_fits_45 : decode cX6_fits 45 = .ok (.invokevirtual 215, 3) := by decide +kernel
theorem dX6_fits_48 : decode cX6_fits 48 = .ok (.ifCond .eq 6, 3) := by decide +kernel
theorem dX6_fits_51 : decode cX6_fits 51 = .ok (.iinc 2 1, 3) := by decide +kernel
theorem dX6_fits_54 : decode cX6_fits 54 = .ok (.iinc 4 1, 3) := by decide +kernel
theorem dX6_fits_57 : decode cX6_fits 57 = .ok (.goto (-23), 3) := by decide +kernel
theorem dX6_fits_60 : decode cX6_fits 60 = .ok (.iinc 3 1, 3) := by decide +kernel
theorem dX6_fits_63 : decode cX6_fits 63 = .ok (.goto (-46), 3) := by decide +kernel
theorem dX6_fits_66 : decode cX6_fits 66 = .ok (.iload_n 2, 1) := by decide +kernel
theorem dX6_fits_67 : decode cX6_fits 67 = .ok (.ireturn, 1) := by decide +kernel
theorem dX6_sure_0 : decode cX6_sure 0 = .ok (.aload_n 0, 1) := by decide +kernel
theorem dX6_sure_1 : decode cX6_sure 1 = .ok (.getfield 19, 3) := by decide +kernel
theorem dX6_sure_4 : decode cX6_sure 4 = .ok (.iload_n 1, 1) := by decide +kernel
theorem dX6_sure_5 : decode cX6_sure 5 = .ok (.invokevirtual 106, 3) := by decide +kernel
theorem dX6_sure_8 : decode cX6_sure 8 = .ok (.ifCond .eq 13, 3) := by decide +kernel
theorem dX6_sure_11 : decode cX6_sure 11 = .ok (.iload_n 2, 1) := by decide +kernel
theorem dX6_sure_12 : decode cX6_sure 12 = .ok (.iconst 0, 1) := by decide +kernel
theorem dX6_sure_13 : decode cX6_sure 13 = .ok (.bipush 60, 2) := by decide +kernel
theorem dX6_sure_15 : decode cX6_sure 15 = .ok (.invokestatic 70, 3) := by decide +kernel
theorem dX6_sure_18 : decode cX6_sure 18 = .ok (.ifCond .ne 5, 3) := by decide +kernel
theorem dX6_sure_21 : decode cX6_sure 21 = .ok (.iconst (-1), 1) := by decide +kernel
theorem dX6_sure_22 : decode cX6_sure 22 = .ok (.ireturn, 1) := by decide +kernel
theorem dX6_sure_23 : decode cX6_sure 23 = .ok (.bipush (-9), 2) := by decide +kernel
theorem dX6_sure_25 : decode cX6_sure 25 = .ok (.istore_n 3, 1) := by decide +kernel
theorem dX6_sure_26 : decode cX6_sure 26 = .ok (.iconst 0, 1) := by decide +kernel
theorem dX6_sure_27 : decode cX6_sure 27 = .ok (.istore 4, 2) := by decide +kernel
theorem dX6_sure_29 : decode cX6_sure 29 = .ok (.iload 4, 2) := by decide +kernel
theorem dX6_sure_31 : decode cX6_sure 31 = .ok (.aload_n 0, 1) := by decide +kernel
theorem dX6_sure_32 : decode cX6_sure 32 = .ok (.getfield 19, 3) := by decide +kernel
theorem dX6_sure_35 : decode cX6_sure 35 = .ok (.getfield 112, 3) := by decide +kernel
theorem dX6_sure_38 : decode cX6_sure 38 = .ok (.iload_n 1, 1) := by decide +kernel
theorem dX6_sure_39 : decode cX6_sure 39 = .ok (.iaload, 1) := by decide +kernel
theorem dX6_sure_40 : decode cX6_sure 40 = .ok (.if_icmp .gt 67, 3) := by decide +kernel
theorem dX6_sure_43 : decode cX6_sure 43 = .ok (.bipush (-3), 2) := by decide +kernel
theorem dX6_sure_45 : decode cX6_sure 45 = .ok (.istore 5, 2) := by decide +kernel
theorem dX6_sure_47 : decode cX6_sure 47 = .ok (.iload 5, 2) := by decide +kernel
theorem dX6_sure_49 : decode cX6_sure 49 = .ok (.iconst 3, 1) := by decide +kernel
theorem dX6_sure_50 : decode cX6_sure 50 = .ok (.if_icmp .gt 51, 3) := by decide +kernel
theorem dX6_sure_53 : decode cX6_sure 53 = .ok (.aload_n 0, 1) := by decide +kernel
theorem dX6_sure_54 : decode cX6_sure 54 = .ok (.iload_n 1, 1) := by decide +kernel
theorem dX6_sure_55 : decode cX6_sure 55 = .ok (.iload 4, 2) := by decide +kernel
theorem dX6_sure_57 : decode cX6_sure 57 = .ok (.iload 5, 2) := by decide +kernel
theorem dX6_sure_59 : decode cX6_sure 59 = .ok (.invokevirtual 215, 3) := by decide +kernel
theorem dX6_sure_62 : decode cX6_sure 62 = .ok (.ifCond .eq 33, 3) := by decide +kernel
theorem dX6_sure_65 : decode cX6_sure 65 = .ok (.aload_n 0, 1) := by decide +kernel
theorem dX6_sure_66 : decode cX6_sure 66 = .ok (.iload_n 1, 1) := by decide +kernel
theorem dX6_sure_67 : decode cX6_sure 67 = .ok (.iload_n 2, 1) := by decide +kernel
theorem dX6_sure_68 : decode cX6_sure 68 = .ok (.iload 4, 2) := by decide +kernel
theorem dX6_sure_70 : decode cX6_sure 70 = .ok (.iload 5, 2) := by decide +kernel
theorem dX6_sure_72 : decode cX6_sure 72 = .ok (.invokevirtual 218, 3) := by decide +kernel
theorem dX6_sure_75 : decode cX6_sure 75 = .ok (.istore 6, 2) := by decide +kernel
theorem dX6_sure_77 : decode cX6_sure 77 = .ok (.iload_n 3, 1) := by decide +kernel
theorem dX6_sure_78 : decode cX6_sure 78 = .ok (.bipush (-9), 2) := by decide +kernel
theorem dX6_sure_80 : decode cX6_sure 80 = .ok (.if_icmp .eq 12, 3) := by decide +kernel
theorem dX6_sure_83 : decode cX6_sure 83 = .ok (.iload_n 3, 1) := by decide +kernel
theorem dX6_sure_84 : decode cX6_sure 84 = .ok (.iload 6, 2) := by decide +kernel
theorem dX6_sure_86 : decode cX6_sure 86 = .ok (.if_icmp .eq 6, 3) := by decide +kernel
theorem dX6_sure_89 : decode cX6_sure 89 = .ok (.bipush (-5), 2) := by decide +kernel
theorem dX6_sure_91 : decode cX6_sure 91 = .ok (.ireturn, 1) := by decide +kernel
theorem dX6_sure_92 : decode cX6_sure 92 = .ok (.iload 6, 2) := by decide +kernel
theorem dX6_sure_94 : decode cX6_sure 94 = .ok (.istore_n 3, 1) := by decide +kernel
theorem dX6_sure_95 : decode cX6_sure 95 = .ok (.iinc 5 1, 3) := by decide +kernel
theorem dX6_sure_98 : decode cX6_sure 98 = .ok (.goto (-51), 3) := by decide +kernel
theorem dX6_sure_101 : decode cX6_sure 101 = .ok (.iinc 4 1, 3) := by decide +kernel
theorem dX6_sure_104 : decode cX6_sure 104 = .ok (.goto (-75), 3) := by decide +kernel
theorem dX6_sure_107 : decode cX6_sure 107 = .ok (.iload_n 3, 1) := by decide +kernel
theorem dX6_sure_108 : decode cX6_sure 108 = .ok (.ireturn, 1) := by decide +kernel
theorem dX6_clash_0 : decode cX6_clash 0 = .ok (.iconst 0, 1) := by decide +kernel
theorem dX6_clash_1 : decode cX6_clash 1 = .ok (.istore_n 1, 1) := by decide +kernel
theorem dX6_clash_2 : decode cX6_clash 2 = .ok (.iload_n 1, 1) := by decide +kernel
theorem dX6_clash_3 : decode cX6_clash 3 = .ok (.aload_n 0, 1) := by decide +kernel
theorem dX6_clash_4 : decode cX6_clash 4 = .ok (.getfield 19, 3) := by decide +kernel
theorem dX6_clash_7 : decode cX6_clash 7 = .ok (.getfield 222, 3) := by decide +kernel
theorem dX6_clash_10 : decode cX6_clash 10 = .ok (.if_icmp .ge 46, 3) := by decide +kernel
theorem dX6_clash_13 : decode cX6_clash 13 = .ok (.iload_n 1, 1) := by decide +kernel
theorem dX6_clash_14 : decode cX6_clash 14 = .ok (.iconst 1, 1) := by decide +kernel
theorem dX6_clash_15 : decode cX6_clash 15 = .ok (.iadd, 1) := by decide +kernel
theorem dX6_clash_16 : decode cX6_clash 16 = .ok (.istore_n 2, 1) := by decide +kernel
theorem dX6_clash_17 : decode cX6_clash 17 = .ok (.iload_n 2, 1) := by decide +kernel
theorem dX6_clash_18 : decode cX6_clash 18 = .ok (.aload_n 0, 1) := by decide +kernel
theorem dX6_clash_19 : decode cX6_clash 19 = .ok (.getfield 19, 3) := by decide +kernel
theorem dX6_clash_22 : decode cX6_clash 22 = .ok (.getfield 222, 3) := by decide +kernel
theorem dX6_clash_25 : decode cX6_clash 25 = .ok (.if_icmp .ge 25, 3) := by decide +kernel
theorem dX6_clash_28 : decode cX6_clash 28 = .ok (.aload_n 0, 1) := by decide +kernel
theorem dX6_clash_29 : decode cX6_clash 29 = .ok (.iload_n 1, 1) := by decide +kernel
theorem dX6_clash_30 : decode cX6_clash 30 = .ok (.iload_n 2, 1) := by decide +kernel
theorem dX6_clash_31 : decode cX6_clash 31 = .ok (.invokevirtual 225, 3) := by decide +kernel
theorem dX6_clash_34 : decode cX6_clash 34 = .ok (.ifCond .eq 10, 3) := by decide +kernel
theorem dX6_clash_37 : decode cX6_clash 37 = .ok (.bipush 10, 2) := by decide +kernel
theorem dX6_clash_39 : decode cX6_clash 39 = .ok (.iload_n 1, 1) := by decide +kernel
theorem dX6_clash_40 : decode cX6_clash 40 = .ok (.imul, 1) := by decide +kernel
theorem dX6_clash_41 : decode cX6_clash 41 = .ok (.iload_n 2, 1) := by decide +kernel
theorem dX6_clash_42 : decode cX6_clash 42 = .ok (.iadd, 1) := by decide +kernel
theorem dX6_clash_43 : decode cX6_clash 43 = .ok (.ireturn, 1) := by decide +kernel
theorem dX6_clash_44 : decode cX6_clash 44 = .ok (.iinc 2 1, 3) := by decide +kernel
theorem dX6_clash_47 : decode cX6_clash 47 = .ok (.goto (-30), 3) := by decide +kernel
theorem dX6_clash_50 : decode cX6_clash 50 = .ok (.iinc 1 1, 3) := by decide +kernel
theorem dX6_clash_53 : decode cX6_clash 53 = .ok (.goto (-51), 3) := by decide +kernel
theorem dX6_clash_56 : decode cX6_clash 56 = .ok (.bipush (-9), 2) := by decide +kernel
theorem dX6_clash_58 : decode cX6_clash 58 = .ok (.ireturn, 1) := by decide +kernel
theorem dX6_rate_0 : decode cX6_rate 0 = .ok (.aload_n 0, 1) := by decide +kernel
theorem dX6_rate_1 : decode cX6_rate 1 = .ok (.getfield 19, 3) := by decide +kernel
theorem dX6_rate_4 : decode cX6_rate 4 = .ok (.iload_n 2, 1) := by decide +kernel
theorem dX6_rate_5 : decode cX6_rate 5 = .ok (.invokevirtual 118, 3) := by decide +kernel
theorem dX6_rate_8 : decode cX6_rate 8 = .ok (.ifCond .ne 6, 3) := by decide +kernel
theorem dX6_rate_11 : decode cX6_rate 11 = .ok (.ldc 184, 2) := by decide +kernel
theorem dX6_rate_13 : decode cX6_rate 13 = .ok (.ireturn, 1) := by decide +kernel
theorem dX6_rate_14 : decode cX6_rate 14 = .ok (.iload_n 1, 1) := by decide +kernel
theorem dX6_rate_15 : decode cX6_rate 15 = .ok (.tableswitch 73 0 5 #[37, 43, 49, 55, 61, 67], 37) := by decide +kernel
theorem dX6_rate_52 : decode cX6_rate 52 = .ok (.aload_n 0, 1) := by decide +kernel
theorem dX6_rate_53 : decode cX6_rate 53 = .ok (.iload_n 2, 1) := by decide +kernel
theorem dX6_rate_54 : decode cX6_rate 54 = .ok (.invokevirtual 228, 3) := by decide +kernel
theorem dX6_rate_57 : decode cX6_rate 57 = .ok (.ireturn, 1) := by decide +kernel
theorem dX6_rate_58 : decode cX6_rate 58 = .ok (.aload_n 0, 1) := by decide +kernel
theorem dX6_rate_59 : decode cX6_rate 59 = .ok (.iload_n 2, 1) := by decide +kernel
theorem dX6_rate_60 : decode cX6_rate 60 = .ok (.invokevirtual 231, 3) := by decide +kernel
theorem dX6_rate_63 : decode cX6_rate 63 = .ok (.ireturn, 1) := by decide +kernel
theorem dX6_rate_64 : decode cX6_rate 64 = .ok (.aload_n 0, 1) := by decide +kernel
theorem dX6_rate_65 : decode cX6_rate 65 = .ok (.iload_n 2, 1) := by decide +kernel
theorem dX6_rate_66 : decode cX6_rate 66 = .ok (.invokevirtual 234, 3) := by decide +kernel
theorem dX6_rate_69 : decode cX6_rate 69 = .ok (.ireturn, 1) := by decide +kernel
theorem dX6_rate_70 : decode cX6_rate 70 = .ok (.aload_n 0, 1) := by decide +kernel
theorem dX6_rate_71 : decode cX6_rate 71 = .ok (.iload_n 2, 1) := by decide +kernel
theorem dX6_rate_72 : decode cX6_rate 72 = .ok (.invokevirtual 237, 3) := by decide +kernel
theorem dX6_rate_75 : decode cX6_rate 75 = .ok (.ireturn, 1) := by decide +kernel
theorem dX6_rate_76 : decode cX6_rate 76 = .ok (.aload_n 0, 1) := by decide +kernel
theorem dX6_rate_77 : decode cX6_rate 77 = .ok (.iload_n 2, 1) := by decide +kernel
theorem dX6_rate_78 : decode cX6_rate 78 = .ok (.invokevirtual 240, 3) := by decide +kernel
theorem dX6_rate_81 : decode cX6_rate 81 = .ok (.ireturn, 1) := by decide +kernel
theorem dX6_rate_82 : decode cX6_rate 82 = .ok (.aload_n 0, 1) := by decide +kernel
theorem dX6_rate_83 : decode cX6_rate 83 = .ok (.iload_n 2, 1) := by decide +kernel
theorem dX6_rate_84 : decode cX6_rate 84 = .ok (.invokevirtual 243, 3) := by decide +kernel
theorem dX6_rate_87 : decode cX6_rate 87 = .ok (.ireturn, 1) := by decide +kernel
theorem dX6_rate_88 : decode cX6_rate 88 = .ok (.ldc 184, 2) := by decide +kernel
theorem dX6_rate_90 : decode cX6_rate 90 = .ok (.ireturn, 1) := by decide +kernel
theorem dX6_keep_0 : decode cX6_keep 0 = .ok (.iload_n 1, 1) := by decide +kernel
theorem dX6_keep_1 : decode cX6_keep 1 = .ok (.iconst 0, 1) := by decide +kernel
theorem dX6_keep_2 : decode cX6_keep 2 = .ok (.iconst 1, 1) := by decide +kernel
theorem dX6_keep_3 : decode cX6_keep 3 = .ok (.invokestatic 70, 3) := by decide +kernel
theorem dX6_keep_6 : decode cX6_keep 6 = .ok (.ifCond .ne 5, 3) := by decide +kernel
theorem dX6_keep_9 : decode cX6_keep 9 = .ok (.iconst (-1), 1) := by decide +kernel
theorem dX6_keep_10 : decode cX6_keep 10 = .ok (.ireturn, 1) := by decide +kernel
theorem dX6_keep_11 : decode cX6_keep 11 = .ok (.aload_n 0, 1) := by decide +kernel
theorem dX6_keep_12 : decode cX6_keep 12 = .ok (.getfield 37, 3) := by decide +kernel
theorem dX6_keep_15 : decode cX6_keep 15 = .ok (.iload_n 1, 1) := by decide +kernel
theorem dX6_keep_16 : decode cX6_keep 16 = .ok (.aaload, 1) := by decide +kernel
theorem dX6_keep_17 : decode cX6_keep 17 = .ok (.aload_n 0, 1) := by decide +kernel
theorem dX6_keep_18 : decode cX6_keep 18 = .ok (.getfield 26, 3) := by decide +kernel
theorem dX6_keep_21 : decode cX6_keep 21 = .ok (.invokevirtual 96, 3) := by decide +kernel
theorem dX6_keep_24 : decode cX6_keep 24 = .ok (.aload_n 0, 1) := by decide +kernel
theorem dX6_keep_25 : decode cX6_keep 25 = .ok (.getfield 41, 3) := by decide +kernel
theorem dX6_keep_28 : decode cX6_keep 28 = .ok (.iload_n 1, 1) := by decide +kernel
theorem dX6_keep_29 : decode cX6_keep 29 = .ok (.iconst 1, 1) := by decide +kernel
theorem dX6_keep_30 : decode cX6_keep 30 = .ok (.bastore, 1) := by decide +kernel
theorem dX6_keep_31 : decode cX6_keep 31 = .ok (.aload_n 0, 1) := by decide +kernel
theorem dX6_keep_32 : decode cX6_keep 32 = .ok (.getfield 26, 3) := by decide +kernel
theorem dX6_keep_35 : decode cX6_keep 35 = .ok (.getfield 144, 3) := by decide +kernel
theorem dX6_keep_38 : decode cX6_keep 38 = .ok (.ireturn, 1) := by decide +kernel
theorem dX6_back_0 : decode cX6_back 0 = .ok (.iload_n 1, 1) := by decide +kernel
theorem dX6_back_1 : decode cX6_back 1 = .ok (.iconst 0, 1) := by decide +kernel
theorem dX6_back_2 : decode cX6_back 2 = .ok (.iconst 1, 1) := by decide +kernel
theorem dX6_back_3 : decode cX6_back 3 = .ok (.invokestatic 70, 3) := by decide +kernel
theorem dX6_back_6 : decode cX6_back 6 = .ok (.ifCond .ne 5, 3) := by decide +kernel
theorem dX6_back_9 : decode cX6_back 9 = .ok (.iconst (-1), 1) := by decide +kernel
theorem dX6_back_10 : decode cX6_back 10 = .ok (.ireturn, 1) := by decide +kernel
theorem dX6_back_11 : decode cX6_back 11 = .ok (.aload_n 0, 1) := by decide +kernel
theorem dX6_back_12 : decode cX6_back 12 = .ok (.getfield 41, 3) := by decide +kernel
theorem dX6_back_15 : decode cX6_back 15 = .ok (.iload_n 1, 1) := by decide +kernel
theorem dX6_back_16 : decode cX6_back 16 = .ok (.baload, 1) := by decide +kernel
theorem dX6_back_17 : decode cX6_back 17 = .ok (.ifCond .ne 6, 3) := by decide +kernel
theorem dX6_back_20 : decode cX6_back 20 = .ok (.bipush (-2), 2) := by decide +kernel
theorem dX6_back_22 : decode cX6_back 22 = .ok (.ireturn, 1) := by decide +kernel
theorem dX6_back_23 : decode cX6_back 23 = .ok (.aload_n 0, 1) := by decide +kernel
theorem dX6_back_24 : decode cX6_back 24 = .ok (.getfield 26, 3) := by decide +kernel
theorem dX6_back_27 : decode cX6_back 27 = .ok (.aload_n 0, 1) := by decide +kernel
theorem dX6_back_28 : decode cX6_back 28 = .ok (.getfield 37, 3) := by decide +kernel
theorem dX6_back_31 : decode cX6_back 31 = .ok (.iload_n 1, 1) := by decide +kernel
theorem dX6_back_32 : decode cX6_back 32 = .ok (.aaload, 1) := by decide +kernel
theorem dX6_back_33 : decode cX6_back 33 = .ok (.invokevirtual 96, 3) := by decide +kernel
theorem dX6_back_36 : decode cX6_back 36 = .ok (.aload_n 0, 1) := by decide +kernel
theorem dX6_back_37 : decode cX6_back 37 = .ok (.getfield 33, 3) := by decide +kernel
theorem dX6_back_40 : decode cX6_back 40 = .ok (.iconst 0, 1) := by decide +kernel
theorem dX6_back_41 : decode cX6_back 41 = .ok (.putfield 99, 3) := by decide +kernel
theorem dX6_back_44 : decode cX6_back 44 = .ok (.aload_n 0, 1) := by decide +kernel
theorem dX6_back_45 : decode cX6_back 45 = .ok (.getfield 26, 3) := by decide +kernel
theorem dX6_back_48 : decode cX6_back 48 = .ok (.getfield 144, 3) := by decide +kernel
theorem dX6_back_51 : decode cX6_back 51 = .ok (.ireturn, 1) := by decide +kernel
theorem dX6_count_0 : decode cX6_count 0 = .ok (.iload_n 1, 1) := by decide +kernel
theorem dX6_count_1 : decode cX6_count 1 = .ok (.tableswitch 99 0 6 #[43, 51, 59, 67, 75, 83, 91], 43) := by decide +kernel
theorem dX6_count_44 : decode cX6_count 44 = .ok (.aload_n 0, 1) := by decide +kernel
theorem dX6_count_45 : decode cX6_count 45 = .ok (.getfield 19, 3) := by decide +kernel
theorem dX6_count_48 : decode cX6_count 48 = .ok (.getfield 222, 3) := by decide +kernel
theorem dX6_count_51 : decode cX6_count 51 = .ok (.ireturn, 1) := by decide +kernel
theorem dX6_count_52 : decode cX6_count 52 = .ok (.aload_n 0, 1) := by decide +kernel
theorem dX6_count_53 : decode cX6_count 53 = .ok (.getfield 19, 3) := by decide +kernel
theorem dX6_count_56 : decode cX6_count 56 = .ok (.getfield 246, 3) := by decide +kernel
theorem dX6_count_59 : decode cX6_count 59 = .ok (.ireturn, 1) := by decide +kernel
theorem dX6_count_60 : decode cX6_count 60 = .ok (.aload_n 0, 1) := by decide +kernel
theorem dX6_count_61 : decode cX6_count 61 = .ok (.getfield 19, 3) := by decide +kernel
theorem dX6_count_64 : decode cX6_count 64 = .ok (.getfield 249, 3) := by decide +kernel
theorem dX6_count_67 : decode cX6_count 67 = .ok (.ireturn, 1) := by decide +kernel
theorem dX6_count_68 : decode cX6_count 68 = .ok (.aload_n 0, 1) := by decide +kernel
theorem dX6_count_69 : decode cX6_count 69 = .ok (.getfield 48, 3) := by decide +kernel
theorem dX6_count_72 : decode cX6_count 72 = .ok (.getfield 102, 3) := by decide +kernel
theorem dX6_count_75 : decode cX6_count 75 = .ok (.ireturn, 1) := by decide +kernel
theorem dX6_count_76 : decode cX6_count 76 = .ok (.aload_n 0, 1) := by decide +kernel
theorem dX6_count_77 : decode cX6_count 77 = .ok (.getfield 55, 3) := by decide +kernel
theorem dX6_count_80 : decode cX6_count 80 = .ok (.getfield 105, 3) := by decide +kernel
theorem dX6_count_83 : decode cX6_count 83 = .ok (.ireturn, 1) := by decide +kernel
theorem dX6_count_84 : decode cX6_count 84 = .ok (.aload_n 0, 1) := by decide +kernel
theorem dX6_count_85 : decode cX6_count 85 = .ok (.getfield 10, 3) := by decide +kernel
theorem dX6_count_88 : decode cX6_count 88 = .ok (.getfield 78, 3) := by decide +kernel
theorem dX6_count_91 : decode cX6_count 91 = .ok (.ireturn, 1) := by decide +kernel
theorem dX6_count_92 : decode cX6_count 92 = .ok (.aload_n 0, 1) := by decide +kernel
theorem dX6_count_93 : decode cX6_count 93 = .ok (.getfield 19, 3) := by decide +kernel
theorem dX6_count_96 : decode cX6_count 96 = .ok (.getfield 175, 3) := by decide +kernel
theorem dX6_count_99 : decode cX6_count 99 = .ok (.ireturn, 1) := by decide +kernel
theorem dX6_count_100 : decode cX6_count 100 = .ok (.iconst (-1), 1) := by decide +kernel
theorem dX6_count_101 : decode cX6_count 101 = .ok (.ireturn, 1) := by decide +kernel
theorem dX6_trace_0 : decode cX6_trace 0 = .ok (.aload_n 0, 1) := by decide +kernel
theorem dX6_trace_1 : decode cX6_trace 1 = .ok (.getfield 66, 3) := by decide +kernel
theorem dX6_trace_4 : decode cX6_trace 4 = .ok (.lreturn, 1) := by decide +kernel
theorem dX6_within_0 : decode cX6_within 0 = .ok (.iload_n 0, 1) := by decide +kernel
theorem dX6_within_1 : decode cX6_within 1 = .ok (.iload_n 1, 1) := by decide +kernel
theorem dX6_within_2 : decode cX6_within 2 = .ok (.if_icmp .lt 12, 3) := by decide +kernel
theorem dX6_within_5 : decode cX6_within 5 = .ok (.iload_n 0, 1) := by decide +kernel
theorem dX6_within_6 : decode cX6_within 6 = .ok (.iload_n 2, 1) := by decide +kernel
theorem dX6_within_7 : decode cX6_within 7 = .ok (.if_icmp .gt 7, 3) := by decide +kernel
theorem dX6_within_10 : decode cX6_within 10 = .ok (.iconst 1, 1) := by decide +kernel
theorem dX6_within_11 : decode cX6_within 11 = .ok (.goto 4, 3) := by decide +kernel
theorem dX6_within_14 : decode cX6_within 14 = .ok (.iconst 0, 1) := by decide +kernel
theorem dX6_within_15 : decode cX6_within 15 = .ok (.ireturn, 1) := by decide +kernel
theorem dX6_moved_0 : decode cX6_moved 0 = .ok (.iconst 0, 1) := by decide +kernel
theorem dX6_moved_1 : decode cX6_moved 1 = .ok (.iload_n 2, 1) := by decide +kernel
theorem dX6_moved_2 : decode cX6_moved 2 = .ok (.iload_n 0, 1) := by decide +kernel
theorem dX6_moved_3 : decode cX6_moved 3 = .ok (.iload_n 1, 1) := by decide +kernel
theorem dX6_moved_4 : decode cX6_moved 4 = .ok (.iadd, 1) := by decide +kernel
theorem dX6_moved_5 : decode cX6_moved 5 = .ok (.invokestatic 252, 3) := by decide +kernel
theorem dX6_moved_8 : decode cX6_moved 8 = .ok (.invokestatic 257, 3) := by decide +kernel
theorem dX6_moved_11 : decode cX6_moved 11 = .ok (.ireturn, 1) := by decide +kernel
theorem dX6_cell_0 : decode cX6_cell 0 = .ok (.iload_n 0, 1) := by decide +kernel
theorem dX6_cell_1 : decode cX6_cell 1 = .ok (.iconst 4, 1) := by decide +kernel
theorem dX6_cell_2 : decode cX6_cell 2 = .ok (.imul, 1) := by decide +kernel
theorem dX6_cell_3 : decode cX6_cell 3 = .ok (.iload_n 1, 1) := by decide +kernel
theorem dX6_cell_4 : decode cX6_cell 4 = .ok (.iadd, 1) := by decide +kernel
theorem dX6_cell_5 : decode cX6_cell 5 = .ok (.ireturn, 1) := by decide +kernel
theorem dX6_endBy_0 : decode cX6_endBy 0 = .ok (.iload_n 0, 1) := by decide +kernel
theorem dX6_endBy_1 : decode cX6_endBy 1 = .ok (.ifCond .ne 14, 3) := by decide +kernel
theorem dX6_endBy_4 : decode cX6_endBy 4 = .ok (.iload_n 3, 1) := by decide +kernel
theorem dX6_endBy_5 : decode cX6_endBy 5 = .ok (.iload_n 1, 1) := by decide +kernel
theorem dX6_endBy_6 : decode cX6_endBy 6 = .ok (.if_icmp .ge 7, 3) := by decide +kernel
theorem dX6_endBy_9 : decode cX6_endBy 9 = .ok (.iconst 0, 1) := by decide +kernel
theorem dX6_endBy_10 : decode cX6_endBy 10 = .ok (.goto 4, 3) := by decide +kernel
theorem dX6_endBy_13 : decode cX6_endBy 13 = .ok (.iconst 1, 1) := by decide +kernel
theorem dX6_endBy_14 : decode cX6_endBy 14 = .ok (.ireturn, 1) := by decide +kernel
theorem dX6_endBy_15 : decode cX6_endBy 15 = .ok (.iload_n 0, 1) := by decide +kernel
theorem dX6_endBy_16 : decode cX6_endBy 16 = .ok (.iconst 3, 1) := by decide +kernel
theorem dX6_endBy_17 : decode cX6_endBy 17 = .ok (.if_icmp .ne 30, 3) := by decide +kernel
theorem dX6_endBy_20 : decode cX6_endBy 20 = .ok (.iconst 2, 1) := by decide +kernel
theorem dX6_endBy_21 : decode cX6_endBy 21 = .ok (.iload_n 3, 1) := by decide +kernel
theorem dX6_endBy_22 : decode cX6_endBy 22 = .ok (.imul, 1) := by decide +kernel
theorem dX6_endBy_23 : decode cX6_endBy 23 = .ok (.istore 4, 2) := by decide +kernel
theorem dX6_endBy_25 : decode cX6_endBy 25 = .ok (.iload 4, 2) := by decide +kernel
theorem dX6_endBy_27 : decode cX6_endBy 27 = .ok (.iload_n 2, 1) := by decide +kernel
theorem dX6_endBy_28 : decode cX6_endBy 28 = .ok (.if_icmp .ne 7, 3) := by decide +kernel
theorem dX6_endBy_31 : decode cX6_endBy 31 = .ok (.iconst 2, 1) := by decide +kernel
theorem dX6_endBy_32 : decode cX6_endBy 32 = .ok (.goto 14, 3) := by decide +kernel
theorem dX6_endBy_35 : decode cX6_endBy 35 = .ok (.iload 4, 2) := by decide +kernel
theorem dX6_endBy_37 : decode cX6_endBy 37 = .ok (.iload_n 2, 1) := by decide +kernel
theorem dX6_endBy_38 : decode cX6_endBy 38 = .ok (.if_icmp .ge 7, 3) := by decide +kernel
theorem dX6_endBy_41 : decode cX6_endBy 41 = .ok (.iconst 0, 1) := by decide +kernel
theorem dX6_endBy_42 : decode cX6_endBy 42 = .ok (.goto 4, 3) := by decide +kernel
theorem dX6_endBy_45 : decode cX6_endBy 45 = .ok (.iconst 1, 1) := by decide +kernel
theorem dX6_endBy_46 : decode cX6_endBy 46 = .ok (.ireturn, 1) := by decide +kernel
theorem dX6_endBy_47 : decode cX6_endBy 47 = .ok (.iload_n 3, 1) := by decide +kernel
theorem dX6_endBy_48 : decode cX6_endBy 48 = .ok (.ifCond .ne 5, 3) := by decide +kernel
theorem dX6_endBy_51 : decode cX6_endBy 51 = .ok (.iconst 0, 1) := by decide +kernel
theorem dX6_endBy_52 : decode cX6_endBy 52 = .ok (.ireturn, 1) := by decide +kernel
theorem dX6_endBy_53 : decode cX6_endBy 53 = .ok (.iload_n 3, 1) := by decide +kernel
theorem dX6_endBy_54 : decode cX6_endBy 54 = .ok (.iload_n 2, 1) := by decide +kernel
theorem dX6_endBy_55 : decode cX6_endBy 55 = .ok (.if_icmp .ne 5, 3) := by decide +kernel
theorem dX6_endBy_58 : decode cX6_endBy 58 = .ok (.iconst 1, 1) := by decide +kernel
theorem dX6_endBy_59 : decode cX6_endBy 59 = .ok (.ireturn, 1) := by decide +kernel
theorem dX6_endBy_60 : decode cX6_endBy 60 = .ok (.iload_n 0, 1) := by decide +kernel
theorem dX6_endBy_61 : decode cX6_endBy 61 = .ok (.iconst 1, 1) := by decide +kernel
theorem dX6_endBy_62 : decode cX6_endBy 62 = .ok (.if_icmp .ne 7, 3) := by decide +kernel
theorem dX6_endBy_65 : decode cX6_endBy 65 = .ok (.iconst 3, 1) := by decide +kernel
theorem dX6_endBy_66 : decode cX6_endBy 66 = .ok (.goto 4, 3) := by decide +kernel
theorem dX6_endBy_69 : decode cX6_endBy 69 = .ok (.iconst 2, 1) := by decide +kernel
theorem dX6_endBy_70 : decode cX6_endBy 70 = .ok (.ireturn, 1) := by decide +kernel
theorem dX6_endOf_0 : decode cX6_endOf 0 = .ok (.aload_n 0, 1) := by decide +kernel
theorem dX6_endOf_1 : decode cX6_endOf 1 = .ok (.getfield 26, 3) := by decide +kernel
theorem dX6_endOf_4 : decode cX6_endOf 4 = .ok (.getfield 109, 3) := by decide +kernel
theorem dX6_endOf_7 : decode cX6_endOf 7 = .ok (.iload_n 1, 1) := by decide +kernel
theorem dX6_endOf_8 : decode cX6_endOf 8 = .ok (.iaload, 1) := by decide +kernel
theorem dX6_endOf_9 : decode cX6_endOf 9 = .ok (.aload_n 0, 1) := by decide +kernel
theorem dX6_endOf_10 : decode cX6_endOf 10 = .ok (.getfield 26, 3) := by decide +kernel
theorem dX6_endOf_13 : decode cX6_endOf 13 = .ok (.getfield 115, 3) := by decide +kernel
theorem dX6_endOf_16 : decode cX6_endOf 16 = .ok (.iload_n 1, 1) := by decide +kernel
theorem dX6_endOf_17 : decode cX6_endOf 17 = .ok (.iaload, 1) := by decide +kernel
theorem dX6_endOf_18 : decode cX6_endOf 18 = .ok (.aload_n 0, 1) := by decide +kernel
theorem dX6_endOf_19 : decode cX6_endOf 19 = .ok (.getfield 19, 3) := by decide +kernel
theorem dX6_endOf_22 : decode cX6_endOf 22 = .ok (.getfield 112, 3) := by decide +kernel
theorem dX6_endOf_25 : decode cX6_endOf 25 = .ok (.iload_n 1, 1) := by decide +kernel
theorem dX6_endOf_26 : decode cX6_endOf 26 = .ok (.iaload, 1) := by decide +kernel
theorem dX6_endOf_27 : decode cX6_endOf 27 = .ok (.iload_n 2, 1) := by decide +kernel
theorem dX6_endOf_28 : decode cX6_endOf 28 = .ok (.invokestatic 260, 3) := by decide +kernel
theorem dX6_endOf_31 : decode cX6_endOf 31 = .ok (.ireturn, 1) := by decide +kernel
theorem dX6_canBeLaw_0 : decode cX6_canBeLaw 0 = .ok (.aload_n 0, 1) := by decide +kernel
theorem dX6_canBeLaw_1 : decode cX6_canBeLaw 1 = .ok (.getfield 19, 3) := by decide +kernel
theorem dX6_canBeLaw_4 : decode cX6_canBeLaw 4 = .ok (.iload_n 1, 1) := by decide +kernel
theorem dX6_canBeLaw_5 : decode cX6_canBeLaw 5 = .ok (.invokevirtual 106, 3) := by decide +kernel
theorem dX6_canBeLaw_8 : decode cX6_canBeLaw 8 = .ok (.ifCond .eq 33, 3) := by decide +kernel
theorem dX6_canBeLaw_11 : decode cX6_canBeLaw 11 = .ok (.iload_n 2, 1) := by decide +kernel
theorem dX6_canBeLaw_12 : decode cX6_canBeLaw 12 = .ok (.iconst 0, 1) := by decide +kernel
theorem dX6_canBeLaw_13 : decode cX6_canBeLaw 13 = .ok (.iconst 3, 1) := by decide +kernel
theorem dX6_canBeLaw_14 : decode cX6_canBeLaw 14 = .ok (.invokestatic 70, 3) := by decide +kernel
theorem dX6_canBeLaw_17 : decode cX6_canBeLaw 17 = .ok (.ifCond .eq 24, 3) := by decide +kernel
theorem dX6_canBeLaw_20 : decode cX6_canBeLaw 20 = .ok (.iload_n 3, 1) := by decide +kernel
theorem dX6_canBeLaw_21 : decode cX6_canBeLaw 21 = .ok (.iconst 1, 1) := by decide +kernel
theorem dX6_canBeLaw_22 : decode cX6_canBeLaw 22 = .ok (.aload_n 0, 1) := by decide +kernel
theorem dX6_canBeLaw_23 : decode cX6_canBeLaw 23 = .ok (.getfield 19, 3) := by decide +kernel
theorem dX6_canBeLaw_26 : decode cX6_canBeLaw 26 = .ok (.getfield 112, 3) := by decide +kernel
theorem dX6_canBeLaw_29 : decode cX6_canBeLaw 29 = .ok (.iload_n 1, 1) := by decide +kernel
theorem dX6_canBeLaw_30 : decode cX6_canBeLaw 30 = .ok (.iaload, 1) := by decide +kernel
theorem dX6_canBeLaw_31 : decode cX6_canBeLaw 31 = .ok (.invokestatic 70, 3) := by decide +kernel
theorem dX6_canBeLaw_34 : decode cX6_canBeLaw 34 = .ok (.ifCond .eq 7, 3) := by decide +kernel
theorem dX6_canBeLaw_37 : decode cX6_canBeLaw 37 = .ok (.iconst 1, 1) := by decide +kernel
theorem dX6_canBeLaw_38 : decode cX6_canBeLaw 38 = .ok (.goto 4, 3) := by decide +kernel
theorem dX6_canBeLaw_41 : decode cX6_canBeLaw 41 = .ok (.iconst 0, 1) := by decide +kernel
theorem dX6_canBeLaw_42 : decode cX6_canBeLaw 42 = .ok (.ireturn, 1) := by decide +kernel
theorem dX6_valueBehind_0 : decode cX6_valueBehind 0 = .ok (.iload_n 2, 1) := by decide +kernel
theorem dX6_valueBehind_1 : decode cX6_valueBehind 1 = .ok (.iload_n 3, 1) := by decide +kernel
theorem dX6_valueBehind_2 : decode cX6_valueBehind 2 = .ok (.invokestatic 124, 3) := by decide +kernel
theorem dX6_valueBehind_5 : decode cX6_valueBehind 5 = .ok (.istore 4, 2) := by decide +kernel
theorem dX6_valueBehind_7 : decode cX6_valueBehind 7 = .ok (.aload_n 0, 1) := by decide +kernel
theorem dX6_valueBehind_8 : decode cX6_valueBehind 8 = .ok (.getfield 26, 3) := by decide +kernel
theorem dX6_valueBehind_11 : decode cX6_valueBehind 11 = .ok (.getfield 121, 3) := by decide +kernel
theorem dX6_valueBehind_14 : decode cX6_valueBehind 14 = .ok (.iload 4, 2) := by decide +kernel
theorem dX6_valueBehind_16 : decode cX6_valueBehind 16 = .ok (.iaload, 1) := by decide +kernel
theorem dX6_valueBehind_17 : decode cX6_valueBehind 17 = .ok (.iload_n 1, 1) := by decide +kernel
theorem dX6_valueBehind_18 : decode cX6_valueBehind 18 = .ok (.aload_n 0, 1) := by decide +kernel
theorem dX6_valueBehind_19 : decode cX6_valueBehind 19 = .ok (.getfield 19, 3) := by decide +kernel
theorem dX6_valueBehind_22 : decode cX6_valueBehind 22 = .ok (.getfield 128, 3) := by decide +kernel
theorem dX6_valueBehind_25 : decode cX6_valueBehind 25 = .ok (.iload 4, 2) := by decide +kernel
theorem dX6_valueBehind_27 : decode cX6_valueBehind 27 = .ok (.iaload, 1) := by decide +kernel
theorem dX6_valueBehind_28 : decode cX6_valueBehind 28 = .ok (.imul, 1) := by decide +kernel
theorem dX6_valueBehind_29 : decode cX6_valueBehind 29 = .ok (.aload_n 0, 1) := by decide +kernel
theorem dX6_valueBehind_30 : decode cX6_valueBehind 30 = .ok (.getfield 19, 3) := by decide +kernel
theorem dX6_valueBehind_33 : decode cX6_valueBehind 33 = .ok (.getfield 112, 3) := by decide +kernel
theorem dX6_valueBehind_36 : decode cX6_valueBehind 36 = .ok (.iload_n 3, 1) := by decide +kernel
theorem dX6_valueBehind_37 : decode cX6_valueBehind 37 = .ok (.iaload, 1) := by decide +kernel
theorem dX6_valueBehind_38 : decode cX6_valueBehind 38 = .ok (.invokestatic 153, 3) := by decide +kernel
theorem dX6_valueBehind_41 : decode cX6_valueBehind 41 = .ok (.ireturn, 1) := by decide +kernel
theorem dX6_endBehind_0 : decode cX6_endBehind 0 = .ok (.aload_n 0, 1) := by decide +kernel
theorem dX6_endBehind_1 : decode cX6_endBehind 1 = .ok (.iload_n 3, 1) := by decide +kernel
theorem dX6_endBehind_2 : decode cX6_endBehind 2 = .ok (.aload_n 0, 1) := by decide +kernel
theorem dX6_endBehind_3 : decode cX6_endBehind 3 = .ok (.iload_n 1, 1) := by decide +kernel
theorem dX6_endBehind_4 : decode cX6_endBehind 4 = .ok (.iload_n 2, 1) := by decide +kernel
theorem dX6_endBehind_5 : decode cX6_endBehind 5 = .ok (.iload_n 3, 1) := by decide +kernel
theorem dX6_endBehind_6 : decode cX6_endBehind 6 = .ok (.invokevirtual 263, 3) := by decide +kernel
theorem dX6_endBehind_9 : decode cX6_endBehind 9 = .ok (.invokevirtual 135, 3) := by decide +kernel
theorem dX6_endBehind_12 : decode cX6_endBehind 12 = .ok (.ireturn, 1) := by decide +kernel
theorem dX6_unlawfulScale_0 : decode cX6_unlawfulScale 0 = .ok (.iconst 0, 1) := by decide +kernel
theorem dX6_unlawfulScale_1 : decode cX6_unlawfulScale 1 = .ok (.istore_n 3, 1) := by decide +kernel
theorem dX6_unlawfulScale_2 : decode cX6_unlawfulScale 2 = .ok (.iload_n 3, 1) := by decide +kernel
theorem dX6_unlawfulScale_3 : decode cX6_unlawfulScale 3 = .ok (.aload_n 0, 1) := by decide +kernel
theorem dX6_unlawfulScale_4 : decode cX6_unlawfulScale 4 = .ok (.getfield 19, 3) := by decide +kernel
theorem dX6_unlawfulScale_7 : decode cX6_unlawfulScale 7 = .ok (.getfield 222, 3) := by decide +kernel
theorem dX6_unlawfulScale_10 : decode cX6_unlawfulScale 10 = .ok (.if_icmp .ge 22, 3) := by decide +kernel
theorem dX6_unlawfulScale_13 : decode cX6_unlawfulScale 13 = .ok (.aload_n 0, 1) := by decide +kernel
theorem dX6_unlawfulScale_14 : decode cX6_unlawfulScale 14 = .ok (.iload_n 2, 1) := by decide +kernel
theorem dX6_unlawfulScale_15 : decode cX6_unlawfulScale 15 = .ok (.iload_n 1, 1) := by decide +kernel
theorem dX6_unlawfulScale_16 : decode cX6_unlawfulScale 16 = .ok (.iload_n 3, 1) := by decide +kernel
theorem dX6_unlawfulScale_17 : decode cX6_unlawfulScale 17 = .ok (.invokevirtual 131, 3) := by decide +kernel
theorem dX6_unlawfulScale_20 : decode cX6_unlawfulScale 20 = .ok (.iconst 3, 1) := by decide +kernel
theorem dX6_unlawfulScale_21 : decode cX6_unlawfulScale 21 = .ok (.if_icmp .ne 5, 3) := by decide +kernel
theorem dX6_unlawfulScale_24 : decode cX6_unlawfulScale 24 = .ok (.iload_n 3, 1) := by decide +kernel
theorem dX6_unlawfulScale_25 : decode cX6_unlawfulScale 25 = .ok (.ireturn, 1) := by decide +kernel
theorem dX6_unlawfulScale_26 : decode cX6_unlawfulScale 26 = .ok (.iinc 3 1, 3) := by decide +kernel
theorem dX6_unlawfulScale_29 : decode cX6_unlawfulScale 29 = .ok (.goto (-27), 3) := by decide +kernel
theorem dX6_unlawfulScale_32 : decode cX6_unlawfulScale 32 = .ok (.bipush (-9), 2) := by decide +kernel
theorem dX6_unlawfulScale_34 : decode cX6_unlawfulScale 34 = .ok (.ireturn, 1) := by decide +kernel
theorem dX6_unlawfulLives_0 : decode cX6_unlawfulLives 0 = .ok (.iconst 0, 1) := by decide +kernel
theorem dX6_unlawfulLives_1 : decode cX6_unlawfulLives 1 = .ok (.istore_n 1, 1) := by decide +kernel
theorem dX6_unlawfulLives_2 : decode cX6_unlawfulLives 2 = .ok (.iconst 0, 1) := by decide +kernel
theorem dX6_unlawfulLives_3 : decode cX6_unlawfulLives 3 = .ok (.istore_n 2, 1) := by decide +kernel
theorem dX6_unlawfulLives_4 : decode cX6_unlawfulLives 4 = .ok (.iload_n 2, 1) := by decide +kernel
theorem dX6_unlawfulLives_5 : decode cX6_unlawfulLives 5 = .ok (.aload_n 0, 1) := by decide +kernel
theorem dX6_unlawfulLives_6 : decode cX6_unlawfulLives 6 = .ok (.getfield 19, 3) := by decide +kernel
theorem dX6_unlawfulLives_9 : decode cX6_unlawfulLives 9 = .ok (.getfield 246, 3) := by decide +kernel
theorem dX6_unlawfulLives_12 : decode cX6_unlawfulLives 12 = .ok (.if_icmp .ge 26, 3) := by decide +kernel
theorem dX6_unlawfulLives_15 : decode cX6_unlawfulLives 15 = .ok (.aload_n 0, 1) := by decide +kernel
theorem dX6_unlawfulLives_16 : decode cX6_unlawfulLives 16 = .ok (.iload_n 2, 1) := by decide +kernel
theorem dX6_unlawfulLives_17 : decode cX6_unlawfulLives 17 = .ok (.iconst 0, 1) := by decide +kernel
theorem dX6_unlawfulLives_18 : decode cX6_unlawfulLives 18 = .ok (.invokevirtual 181, 3) := by decide +kernel
theorem dX6_unlawfulLives_21 : decode cX6_unlawfulLives 21 = .ok (.bipush (-9), 2) := by decide +kernel
theorem dX6_unlawfulLives_23 : decode cX6_unlawfulLives 23 = .ok (.if_icmp .eq 9, 3) := by decide +kernel
theorem dX6_unlawfulLives_26 : decode cX6_unlawfulLives 26 = .ok (.iload_n 1, 1) := by decide +kernel
theorem dX6_unlawfulLives_27 : decode cX6_unlawfulLives 27 = .ok (.iconst 1, 1) := by decide +kernel
theorem dX6_unlawfulLives_28 : decode cX6_unlawfulLives 28 = .ok (.iload_n 2, 1) := by decide +kernel
theorem dX6_unlawfulLives_29 : decode cX6_unlawfulLives 29 = .ok (.ishl, 1) := by decide +kernel
theorem dX6_unlawfulLives_30 : decode cX6_unlawfulLives 30 = .ok (.ior, 1) := by decide +kernel
theorem dX6_unlawfulLives_31 : decode cX6_unlawfulLives 31 = .ok (.istore_n 1, 1) := by decide +kernel
theorem dX6_unlawfulLives_32 : decode cX6_unlawfulLives 32 = .ok (.iinc 2 1, 3) := by decide +kernel
theorem dX6_unlawfulLives_35 : decode cX6_unlawfulLives 35 = .ok (.goto (-31), 3) := by decide +kernel
theorem dX6_unlawfulLives_38 : decode cX6_unlawfulLives 38 = .ok (.iload_n 1, 1) := by decide +kernel
theorem dX6_unlawfulLives_39 : decode cX6_unlawfulLives 39 = .ok (.ireturn, 1) := by decide +kernel
theorem dX6_scalesAt_0 : decode cX6_scalesAt 0 = .ok (.iconst 0, 1) := by decide +kernel
theorem dX6_scalesAt_1 : decode cX6_scalesAt 1 = .ok (.istore_n 3, 1) := by decide +kernel
theorem dX6_scalesAt_2 : decode cX6_scalesAt 2 = .ok (.iconst 0, 1) := by decide +kernel
theorem dX6_scalesAt_3 : decode cX6_scalesAt 3 = .ok (.istore 4, 2) := by decide +kernel
theorem dX6_scalesAt_5 : decode cX6_scalesAt 5 = .ok (.iload 4, 2) := by decide +kernel
theorem dX6_scalesAt_7 : decode cX6_scalesAt 7 = .ok (.aload_n 0, 1) := by decide +kernel
theorem dX6_scalesAt_8 : decode cX6_scalesAt 8 = .ok (.getfield 19, 3) := by decide +kernel
theorem dX6_scalesAt_11 : decode cX6_scalesAt 11 = .ok (.getfield 222, 3) := by decide +kernel
theorem dX6_scalesAt_14 : decode cX6_scalesAt 14 = .ok (.if_icmp .ge 36, 3) := by decide +kernel
theorem dX6_scalesAt_17 : decode cX6_scalesAt 17 = .ok (.aload_n 0, 1) := by decide +kernel
theorem dX6_scalesAt_18 : decode cX6_scalesAt 18 = .ok (.iload 4, 2) := by decide +kernel
theorem dX6_scalesAt_20 : decode cX6_scalesAt 20 = .ok (.aload_n 0, 1) := by decide +kernel
theorem dX6_scalesAt_21 : decode cX6_scalesAt 21 = .ok (.getfield 26, 3) := by decide +kernel
theorem dX6_scalesAt_24 : decode cX6_scalesAt 24 = .ok (.getfield 121, 3) := by decide +kernel
theorem dX6_scalesAt_27 : decode cX6_scalesAt 27 = .ok (.iload_n 2, 1) := by decide +kernel
theorem dX6_scalesAt_28 : decode cX6_scalesAt 28 = .ok (.iload 4, 2) := by decide +kernel
theorem dX6_scalesAt_30 : decode cX6_scalesAt 30 = .ok (.invokestatic 124, 3) := by decide +kernel
theorem dX6_scalesAt_33 : decode cX6_scalesAt 33 = .ok (.iaload, 1) := by decide +kernel
theorem dX6_scalesAt_34 : decode cX6_scalesAt 34 = .ok (.invokevirtual 135, 3) := by decide +kernel
theorem dX6_scalesAt_37 : decode cX6_scalesAt 37 = .ok (.iload_n 1, 1) := by decide +kernel
theorem dX6_scalesAt_38 : decode cX6_scalesAt 38 = .ok (.if_icmp .ne 6, 3) := by decide +kernel
theorem dX6_scalesAt_41 : decode cX6_scalesAt 41 = .ok (.iinc 3 1, 3) := by decide +kernel
theorem dX6_scalesAt_44 : decode cX6_scalesAt 44 = .ok (.iinc 4 1, 3) := by decide +kernel
theorem dX6_scalesAt_47 : decode cX6_scalesAt 47 = .ok (.goto (-42), 3) := by decide +kernel
theorem dX6_scalesAt_50 : decode cX6_scalesAt 50 = .ok (.iload_n 3, 1) := by decide +kernel
theorem dX6_scalesAt_51 : decode cX6_scalesAt 51 = .ok (.ireturn, 1) := by decide +kernel
theorem dX6_inTheDrawer_0 : decode cX6_inTheDrawer 0 = .ok (.iconst 0, 1) := by decide +kernel
theorem dX6_inTheDrawer_1 : decode cX6_inTheDrawer 1 = .ok (.istore_n 1, 1) := by decide +kernel
theorem dX6_inTheDrawer_2 : decode cX6_inTheDrawer 2 = .ok (.iconst 0, 1) := by decide +kernel
theorem dX6_inTheDrawer_3 : decode cX6_inTheDrawer 3 = .ok (.istore_n 2, 1) := by decide +kernel
theorem dX6_inTheDrawer_4 : decode cX6_inTheDrawer 4 = .ok (.iload_n 2, 1) := by decide +kernel
theorem dX6_inTheDrawer_5 : decode cX6_inTheDrawer 5 = .ok (.aload_n 0, 1) := by decide +kernel
theorem dX6_inTheDrawer_6 : decode cX6_inTheDrawer 6 = .ok (.getfield 19, 3) := by decide +kernel
theorem dX6_inTheDrawer_9 : decode cX6_inTheDrawer 9 = .ok (.getfield 246, 3) := by decide +kernel
theorem dX6_inTheDrawer_12 : decode cX6_inTheDrawer 12 = .ok (.if_icmp .ge 18, 3) := by decide +kernel
theorem dX6_inTheDrawer_15 : decode cX6_inTheDrawer 15 = .ok (.iload_n 1, 1) := by decide +kernel
theorem dX6_inTheDrawer_16 : decode cX6_inTheDrawer 16 = .ok (.aload_n 0, 1) := by decide +kernel
theorem dX6_inTheDrawer_17 : decode cX6_inTheDrawer 17 = .ok (.iconst 2, 1) := by decide +kernel
theorem dX6_inTheDrawer_18 : decode cX6_inTheDrawer 18 = .ok (.iload_n 2, 1) := by decide +kernel
theorem dX6_inTheDrawer_19 : decode cX6_inTheDrawer 19 = .ok (.invokevirtual 266, 3) := by decide +kernel
theorem dX6_inTheDrawer_22 : decode cX6_inTheDrawer 22 = .ok (.iadd, 1) := by decide +kernel
theorem dX6_inTheDrawer_23 : decode cX6_inTheDrawer 23 = .ok (.istore_n 1, 1) := by decide +kernel
theorem dX6_inTheDrawer_24 : decode cX6_inTheDrawer 24 = .ok (.iinc 2 1, 3) := by decide +kernel
theorem dX6_inTheDrawer_27 : decode cX6_inTheDrawer 27 = .ok (.goto (-23), 3) := by decide +kernel
theorem dX6_inTheDrawer_30 : decode cX6_inTheDrawer 30 = .ok (.iload_n 1, 1) := by decide +kernel
theorem dX6_inTheDrawer_31 : decode cX6_inTheDrawer 31 = .ok (.ireturn, 1) := by decide +kernel
theorem dX6_goByOneYear_0 : decode cX6_goByOneYear 0 = .ok (.iconst 0, 1) := by decide +kernel
theorem dX6_goByOneYear_1 : decode cX6_goByOneYear 1 = .ok (.istore_n 1, 1) := by decide +kernel
theorem dX6_goByOneYear_2 : decode cX6_goByOneYear 2 = .ok (.iload_n 1, 1) := by decide +kernel
theorem dX6_goByOneYear_3 : decode cX6_goByOneYear 3 = .ok (.aload_n 0, 1) := by decide +kernel
theorem dX6_goByOneYear_4 : decode cX6_goByOneYear 4 = .ok (.getfield 19, 3) := by decide +kernel
theorem dX6_goByOneYear_7 : decode cX6_goByOneYear 7 = .ok (.getfield 246, 3) := by decide +kernel
theorem dX6_goByOneYear_10 : decode cX6_goByOneYear 10 = .ok (.if_icmp .ge 78, 3) := by decide +kernel
theorem dX6_goByOneYear_13 : decode cX6_goByOneYear 13 = .ok (.iconst 0, 1) := by decide +kernel
theorem dX6_goByOneYear_14 : decode cX6_goByOneYear 14 = .ok (.istore_n 2, 1) := by decide +kernel
theorem dX6_goByOneYear_15 : decode cX6_goByOneYear 15 = .ok (.iload_n 2, 1) := by decide +kernel
theorem dX6_goByOneYear_16 : decode cX6_goByOneYear 16 = .ok (.aload_n 0, 1) := by decide +kernel
theorem dX6_goByOneYear_17 : decode cX6_goByOneYear 17 = .ok (.getfield 19, 3) := by decide +kernel
theorem dX6_goByOneYear_20 : decode cX6_goByOneYear 20 = .ok (.getfield 222, 3) := by decide +kernel
theorem dX6_goByOneYear_23 : decode cX6_goByOneYear 23 = .ok (.if_icmp .ge 59, 3) := by decide +kernel
theorem dX6_goByOneYear_26 : decode cX6_goByOneYear 26 = .ok (.aload_n 0, 1) := by decide +kernel
theorem dX6_goByOneYear_27 : decode cX6_goByOneYear 27 = .ok (.iconst 0, 1) := by decide +kernel
theorem dX6_goByOneYear_28 : decode cX6_goByOneYear 28 = .ok (.iload_n 1, 1) := by decide +kernel
theorem dX6_goByOneYear_29 : decode cX6_goByOneYear 29 = .ok (.iload_n 2, 1) := by decide +kernel
theorem dX6_goByOneYear_30 : decode cX6_goByOneYear 30 = .ok (.invokevirtual 131, 3) := by decide +kernel
theorem dX6_goByOneYear_33 : decode cX6_goByOneYear 33 = .ok (.aload_n 0, 1) := by decide +kernel
theorem dX6_goByOneYear_34 : decode cX6_goByOneYear 34 = .ok (.iconst 1, 1) := by decide +kernel
theorem dX6_goByOneYear_35 : decode cX6_goByOneYear 35 = .ok (.iload_n 1, 1) := by decide +kernel
theorem dX6_goByOneYear_36 : decode cX6_goByOneYear 36 = .ok (.iload_n 2, 1) := by decide +kernel
theorem dX6_goByOneYear_37 : decode cX6_goByOneYear 37 = .ok (.invokevirtual 131, 3) := by decide +kernel
theorem dX6_goByOneYear_40 : decode cX6_goByOneYear 40 = .ok (.if_icmp .eq 16, 3) := by decide +kernel
theorem dX6_goByOneYear_43 : decode cX6_goByOneYear 43 = .ok (.aload_n 0, 1) := by decide +kernel
theorem dX6_goByOneYear_44 : decode cX6_goByOneYear 44 = .ok (.getfield 26, 3) := by decide +kernel
theorem dX6_goByOneYear_47 : decode cX6_goByOneYear 47 = .ok (.dup, 1) := by decide +kernel
theorem dX6_goByOneYear_48 : decode cX6_goByOneYear 48 = .ok (.getfield 178, 3) := by decide +kernel
theorem dX6_goByOneYear_51 : decode cX6_goByOneYear 51 = .ok (.iconst 1, 1) := by decide +kernel
theorem dX6_goByOneYear_52 : decode cX6_goByOneYear 52 = .ok (.iadd, 1) := by decide +kernel
theorem dX6_goByOneYear_53 : decode cX6_goByOneYear 53 = .ok (.putfield 178, 3) := by decide +kernel
theorem dX6_goByOneYear_56 : decode cX6_goByOneYear 56 = .ok (.aload_n 0, 1) := by decide +kernel
theorem dX6_goByOneYear_57 : decode cX6_goByOneYear 57 = .ok (.getfield 26, 3) := by decide +kernel
theorem dX6_goByOneYear_60 : decode cX6_goByOneYear 60 = .ok (.getfield 121, 3) := by decide +kernel
theorem dX6_goByOneYear_63 : decode cX6_goByOneYear 63 = .ok (.iload_n 1, 1) := by decide +kernel
theorem dX6_goByOneYear_64 : decode cX6_goByOneYear 64 = .ok (.iload_n 2, 1) := by decide +kernel
theorem dX6_goByOneYear_65 : decode cX6_goByOneYear 65 = .ok (.invokestatic 124, 3) := by decide +kernel
theorem dX6_goByOneYear_68 : decode cX6_goByOneYear 68 = .ok (.aload_n 0, 1) := by decide +kernel
theorem dX6_goByOneYear_69 : decode cX6_goByOneYear 69 = .ok (.iconst 1, 1) := by decide +kernel
theorem dX6_goByOneYear_70 : decode cX6_goByOneYear 70 = .ok (.iload_n 1, 1) := by decide +kernel
theorem dX6_goByOneYear_71 : decode cX6_goByOneYear 71 = .ok (.iload_n 2, 1) := by decide +kernel
theorem dX6_goByOneYear_72 : decode cX6_goByOneYear 72 = .ok (.invokevirtual 263, 3) := by decide +kernel
theorem dX6_goByOneYear_75 : decode cX6_goByOneYear 75 = .ok (.iastore, 1) := by decide +kernel
theorem dX6_goByOneYear_76 : decode cX6_goByOneYear 76 = .ok (.iinc 2 1, 3) := by decide +kernel
theorem dX6_goByOneYear_79 : decode cX6_goByOneYear 79 = .ok (.goto (-64), 3) := by decide +kernel
theorem dX6_goByOneYear_82 : decode cX6_goByOneYear 82 = .ok (.iinc 1 1, 3) := by decide +kernel
theorem dX6_goByOneYear_85 : decode cX6_goByOneYear 85 = .ok (.goto (-83), 3) := by decide +kernel
theorem dX6_goByOneYear_88 : decode cX6_goByOneYear 88 = .ok (.aload_n 0, 1) := by decide +kernel
theorem dX6_goByOneYear_89 : decode cX6_goByOneYear 89 = .ok (.getfield 26, 3) := by decide +kernel
theorem dX6_goByOneYear_92 : decode cX6_goByOneYear 92 = .ok (.dup, 1) := by decide +kernel
theorem dX6_goByOneYear_93 : decode cX6_goByOneYear 93 = .ok (.getfield 144, 3) := by decide +kernel
theorem dX6_goByOneYear_96 : decode cX6_goByOneYear 96 = .ok (.iconst 1, 1) := by decide +kernel
theorem dX6_goByOneYear_97 : decode cX6_goByOneYear 97 = .ok (.iadd, 1) := by decide +kernel
theorem dX6_goByOneYear_98 : decode cX6_goByOneYear 98 = .ok (.putfield 144, 3) := by decide +kernel
theorem dX6_goByOneYear_101 : decode cX6_goByOneYear 101 = .ok (.return_, 1) := by decide +kernel
theorem dX6_unlawfulYears_0 : decode cX6_unlawfulYears 0 = .ok (.iconst 0, 1) := by decide +kernel
theorem dX6_unlawfulYears_1 : decode cX6_unlawfulYears 1 = .ok (.istore 4, 2) := by decide +kernel
theorem dX6_unlawfulYears_3 : decode cX6_unlawfulYears 3 = .ok (.iconst 0, 1) := by decide +kernel
theorem dX6_unlawfulYears_4 : decode cX6_unlawfulYears 4 = .ok (.istore 5, 2) := by decide +kernel
theorem dX6_unlawfulYears_6 : decode cX6_unlawfulYears 6 = .ok (.iload 5, 2) := by decide +kernel
theorem dX6_unlawfulYears_8 : decode cX6_unlawfulYears 8 = .ok (.aload_n 0, 1) := by decide +kernel
theorem dX6_unlawfulYears_9 : decode cX6_unlawfulYears 9 = .ok (.getfield 19, 3) := by decide +kernel
theorem dX6_unlawfulYears_12 : decode cX6_unlawfulYears 12 = .ok (.getfield 246, 3) := by decide +kernel
theorem dX6_unlawfulYears_15 : decode cX6_unlawfulYears 15 = .ok (.if_icmp .ge 42, 3) := by decide +kernel
theorem dX6_unlawfulYears_18 : decode cX6_unlawfulYears 18 = .ok (.iconst 0, 1) := by decide +kernel
theorem dX6_unlawfulYears_19 : decode cX6_unlawfulYears 19 = .ok (.istore 6, 2) := by decide +kernel
theorem dX6_unlawfulYears_21 : decode cX6_unlawfulYears 21 = .ok (.iload 6, 2) := by decide +kernel
theorem dX6_unlawfulYears_23 : decode cX6_unlawfulYears 23 = .ok (.bipush 20, 2) := by decide +kernel
theorem dX6_unlawfulYears_25 : decode cX6_unlawfulYears 25 = .ok (.if_icmp .gt 26, 3) := by decide +kernel
theorem dX6_unlawfulYears_28 : decode cX6_unlawfulYears 28 = .ok (.aload_n 0, 1) := by decide +kernel
theorem dX6_unlawfulYears_29 : decode cX6_unlawfulYears 29 = .ok (.iload 5, 2) := by decide +kernel
theorem dX6_unlawfulYears_31 : decode cX6_unlawfulYears 31 = .ok (.iload 6, 2) := by decide +kernel
theorem dX6_unlawfulYears_33 : decode cX6_unlawfulYears 33 = .ok (.iload_n 1, 1) := by decide +kernel
theorem dX6_unlawfulYears_34 : decode cX6_unlawfulYears 34 = .ok (.iload_n 2, 1) := by decide +kernel
theorem dX6_unlawfulYears_35 : decode cX6_unlawfulYears 35 = .ok (.iload_n 3, 1) := by decide +kernel
theorem dX6_unlawfulYears_36 : decode cX6_unlawfulYears 36 = .ok (.invokevirtual 269, 3) := by decide +kernel
theorem dX6_unlawfulYears_39 : decode cX6_unlawfulYears 39 = .ok (.ifCond .eq 6, 3) := by decide +kernel
theorem dX6_unlawfulYears_42 : decode cX6_unlawfulYears 42 = .ok (.iinc 4 1, 3) := by decide +kernel
theorem dX6_unlawfulYears_45 : decode cX6_unlawfulYears 45 = .ok (.iinc 6 1, 3) := by decide +kernel
theorem dX6_unlawfulYears_48 : decode cX6_unlawfulYears 48 = .ok (.goto (-27), 3) := by decide +kernel
theorem dX6_unlawfulYears_51 : decode cX6_unlawfulYears 51 = .ok (.iinc 5 1, 3) := by decide +kernel
theorem dX6_unlawfulYears_54 : decode cX6_unlawfulYears 54 = .ok (.goto (-48), 3) := by decide +kernel
theorem dX6_unlawfulYears_57 : decode cX6_unlawfulYears 57 = .ok (.iload 4, 2) := by decide +kernel
theorem dX6_unlawfulYears_59 : decode cX6_unlawfulYears 59 = .ok (.ireturn, 1) := by decide +kernel
theorem dX6_isUnlawfulBy_0 : decode cX6_isUnlawfulBy 0 = .ok (.iconst 0, 1) := by decide +kernel
theorem dX6_isUnlawfulBy_1 : decode cX6_isUnlawfulBy 1 = .ok (.istore 6, 2) := by decide +kernel
theorem dX6_isUnlawfulBy_3 : decode cX6_isUnlawfulBy 3 = .ok (.iload 6, 2) := by decide +kernel
theorem dX6_isUnlawfulBy_5 : decode cX6_isUnlawfulBy 5 = .ok (.aload_n 0, 1) := by decide +kernel
theorem dX6_isUnlawfulBy_6 : decode cX6_isUnlawfulBy 6 = .ok (.getfield 19, 3) := by decide +kernel
theorem dX6_isUnlawfulBy_9 : decode cX6_isUnlawfulBy 9 = .ok (.getfield 222, 3) := by decide +kernel
theorem dX6_isUnlawfulBy_12 : decode cX6_isUnlawfulBy 12 = .ok (.if_icmp .ge 64, 3) := by decide +kernel
theorem dX6_isUnlawfulBy_15 : decode cX6_isUnlawfulBy 15 = .ok (.aload_n 0, 1) := by decide +kernel
theorem dX6_isUnlawfulBy_16 : decode cX6_isUnlawfulBy 16 = .ok (.iload_n 2, 1) := by decide +kernel
theorem dX6_isUnlawfulBy_17 : decode cX6_isUnlawfulBy 17 = .ok (.iload_n 1, 1) := by decide +kernel
theorem dX6_isUnlawfulBy_18 : decode cX6_isUnlawfulBy 18 = .ok (.iload 6, 2) := by decide +kernel
theorem dX6_isUnlawfulBy_20 : decode cX6_isUnlawfulBy 20 = .ok (.invokevirtual 263, 3) := by decide +kernel
theorem dX6_isUnlawfulBy_23 : decode cX6_isUnlawfulBy 23 = .ok (.istore 7, 2) := by decide +kernel
theorem dX6_isUnlawfulBy_25 : decode cX6_isUnlawfulBy 25 = .ok (.iload 6, 2) := by decide +kernel
theorem dX6_isUnlawfulBy_27 : decode cX6_isUnlawfulBy 27 = .ok (.iload_n 3, 1) := by decide +kernel
theorem dX6_isUnlawfulBy_28 : decode cX6_isUnlawfulBy 28 = .ok (.if_icmp .ne 24, 3) := by decide +kernel
theorem dX6_isUnlawfulBy_31 : decode cX6_isUnlawfulBy 31 = .ok (.iload 4, 2) := by decide +kernel
theorem dX6_isUnlawfulBy_33 : decode cX6_isUnlawfulBy 33 = .ok (.iload 5, 2) := by decide +kernel
theorem dX6_isUnlawfulBy_35 : decode cX6_isUnlawfulBy 35 = .ok (.aload_n 0, 1) := by decide +kernel
theorem dX6_isUnlawfulBy_36 : decode cX6_isUnlawfulBy 36 = .ok (.getfield 19, 3) := by decide +kernel
theorem dX6_isUnlawfulBy_39 : decode cX6_isUnlawfulBy 39 = .ok (.getfield 112, 3) := by decide +kernel
theorem dX6_isUnlawfulBy_42 : decode cX6_isUnlawfulBy 42 = .ok (.iload_n 3, 1) := by decide +kernel
theorem dX6_isUnlawfulBy_43 : decode cX6_isUnlawfulBy 43 = .ok (.iaload, 1) := by decide +kernel
theorem dX6_isUnlawfulBy_44 : decode cX6_isUnlawfulBy 44 = .ok (.iload 7, 2) := by decide +kernel
theorem dX6_isUnlawfulBy_46 : decode cX6_isUnlawfulBy 46 = .ok (.invokestatic 260, 3) := by decide +kernel
theorem dX6_isUnlawfulBy_49 : decode cX6_isUnlawfulBy 49 = .ok (.goto 11, 3) := by decide +kernel
theorem dX6_isUnlawfulBy_52 : decode cX6_isUnlawfulBy 52 = .ok (.aload_n 0, 1) := by decide +kernel
theorem dX6_isUnlawfulBy_53 : decode cX6_isUnlawfulBy 53 = .ok (.iload 6, 2) := by decide +kernel
theorem dX6_isUnlawfulBy_55 : decode cX6_isUnlawfulBy 55 = .ok (.iload 7, 2) := by decide +kernel
theorem dX6_isUnlawfulBy_57 : decode cX6_isUnlawfulBy 57 = .ok (.invokevirtual 135, 3) := by decide +kernel
theorem dX6_isUnlawfulBy_60 : decode cX6_isUnlawfulBy 60 = .ok (.istore 8, 2) := by decide +kernel
theorem dX6_isUnlawfulBy_62 : decode cX6_isUnlawfulBy 62 = .ok (.iload 8, 2) := by decide +kernel
theorem dX6_isUnlawfulBy_64 : decode cX6_isUnlawfulBy 64 = .ok (.iconst 3, 1) := by decide +kernel
theorem dX6_isUnlawfulBy_65 : decode cX6_isUnlawfulBy 65 = .ok (.if_icmp .ne 5, 3) := by decide +kernel
theorem dX6_isUnlawfulBy_68 : decode cX6_isUnlawfulBy 68 = .ok (.iconst 1, 1) := by decide +kernel
theorem dX6_isUnlawfulBy_69 : decode cX6_isUnlawfulBy 69 = .ok (.ireturn, 1) := by decide +kernel
theorem dX6_isUnlawfulBy_70 : decode cX6_isUnlawfulBy 70 = .ok (.iinc 6 1, 3) := by decide +kernel
theorem dX6_isUnlawfulBy_73 : decode cX6_isUnlawfulBy 73 = .ok (.goto (-70), 3) := by decide +kernel
theorem dX6_isUnlawfulBy_76 : decode cX6_isUnlawfulBy 76 = .ok (.iconst 0, 1) := by decide +kernel
theorem dX6_isUnlawfulBy_77 : decode cX6_isUnlawfulBy 77 = .ok (.ireturn, 1) := by decide +kernel
theorem dX6_endChangesByJump_0 : decode cX6_endChangesByJump 0 = .ok (.iconst 0, 1) := by decide +kernel
theorem dX6_endChangesByJump_1 : decode cX6_endChangesByJump 1 = .ok (.istore_n 3, 1) := by decide +kernel
theorem dX6_endChangesByJump_2 : decode cX6_endChangesByJump 2 = .ok (.iconst 0, 1) := by decide +kernel
theorem dX6_endChangesByJump_3 : decode cX6_endChangesByJump 3 = .ok (.istore 4, 2) := by decide +kernel
theorem dX6_endChangesByJump_5 : decode cX6_endChangesByJump 5 = .ok (.iload 4, 2) := by decide +kernel
theorem dX6_endChangesByJump_7 : decode cX6_endChangesByJump 7 = .ok (.aload_n 0, 1) := by decide +kernel
theorem dX6_endChangesByJump_8 : decode cX6_endChangesByJump 8 = .ok (.getfield 19, 3) := by decide +kernel
theorem dX6_endChangesByJump_11 : decode cX6_endChangesByJump 11 = .ok (.getfield 246, 3) := by decide +kernel
theorem dX6_endChangesByJump_14 : decode cX6_endChangesByJump 14 = .ok (.if_icmp .ge 69, 3) := by decide +kernel
theorem dX6_endChangesByJump_17 : decode cX6_endChangesByJump 17 = .ok (.iconst 0, 1) := by decide +kernel
theorem dX6_endChangesByJump_18 : decode cX6_endChangesByJump 18 = .ok (.istore 5, 2) := by decide +kernel
theorem dX6_endChangesByJump_20 : decode cX6_endChangesByJump 20 = .ok (.iload 5, 2) := by decide +kernel
theorem dX6_endChangesByJump_22 : decode cX6_endChangesByJump 22 = .ok (.bipush 20, 2) := by decide +kernel
theorem dX6_endChangesByJump_24 : decode cX6_endChangesByJump 24 = .ok (.if_icmp .ge 53, 3) := by decide +kernel
theorem dX6_endChangesByJump_27 : decode cX6_endChangesByJump 27 = .ok (.aload_n 0, 1) := by decide +kernel
theorem dX6_endChangesByJump_28 : decode cX6_endChangesByJump 28 = .ok (.iload 5, 2) := by decide +kernel
theorem dX6_endChangesByJump_30 : decode cX6_endChangesByJump 30 = .ok (.iload 4, 2) := by decide +kernel
theorem dX6_endChangesByJump_32 : decode cX6_endChangesByJump 32 = .ok (.iload_n 1, 1) := by decide +kernel
theorem dX6_endChangesByJump_33 : decode cX6_endChangesByJump 33 = .ok (.invokevirtual 263, 3) := by decide +kernel
theorem dX6_endChangesByJump_36 : decode cX6_endChangesByJump 36 = .ok (.iload_n 2, 1) := by decide +kernel
theorem dX6_endChangesByJump_37 : decode cX6_endChangesByJump 37 = .ok (.if_icmp .ge 7, 3) := by decide +kernel
theorem dX6_endChangesByJump_40 : decode cX6_endChangesByJump 40 = .ok (.iconst 1, 1) := by decide +kernel
theorem dX6_endChangesByJump_41 : decode cX6_endChangesByJump 41 = .ok (.goto 4, 3) := by decide +kernel
theorem dX6_endChangesByJump_44 : decode cX6_endChangesByJump 44 = .ok (.iconst 0, 1) := by decide +kernel
theorem dX6_endChangesByJump_45 : decode cX6_endChangesByJump 45 = .ok (.aload_n 0, 1) := by decide +kernel
theorem dX6_endChangesByJump_46 : decode cX6_endChangesByJump 46 = .ok (.iload 5, 2) := by decide +kernel
theorem dX6_endChangesByJump_48 : decode cX6_endChangesByJump 48 = .ok (.iconst 1, 1) := by decide +kernel
theorem dX6_endChangesByJump_49 : decode cX6_endChangesByJump 49 = .ok (.iadd, 1) := by decide +kernel
theorem dX6_endChangesByJump_50 : decode cX6_endChangesByJump 50 = .ok (.iload 4, 2) := by decide +kernel
theorem dX6_endChangesByJump_52 : decode cX6_endChangesByJump 52 = .ok (.iload_n 1, 1) := by decide +kernel
theorem dX6_endChangesByJump_53 : decode cX6_endChangesByJump 53 = .ok (.invokevirtual 263, 3) := by decide +kernel
theorem dX6_endChangesByJump_56 : decode cX6_endChangesByJump 56 = .ok (.iload_n 2, 1) := by decide +kernel
theorem dX6_endChangesByJump_57 : decode cX6_endChangesByJump 57 = .ok (.if_icmp .ge 7, 3) := by decide +kernel
theorem dX6_endChangesByJump_60 : decode cX6_endChangesByJump 60 = .ok (.iconst 1, 1) := by decide +kernel
theorem dX6_endChangesByJump_61 : decode cX6_endChangesByJump 61 = .ok (.goto 4, 3) := by decide +kernel
theorem dX6_endChangesByJump_64 : decode cX6_endChangesByJump 64 = .ok (.iconst 0, 1) := by decide +kernel
theorem dX6_endChangesByJump_65 : decode cX6_endChangesByJump 65 = .ok (.if_icmp .eq 6, 3) := by decide +kernel
theorem dX6_endChangesByJump_68 : decode cX6_endChangesByJump 68 = .ok (.iinc 3 1, 3) := by decide +kernel
theorem dX6_endChangesByJump_71 : decode cX6_endChangesByJump 71 = .ok (.iinc 5 1, 3) := by decide +kernel
theorem dX6_endChangesByJump_74 : decode cX6_endChangesByJump 74 = .ok (.goto (-54), 3) := by decide +kernel
theorem dX6_endChangesByJump_77 : decode cX6_endChangesByJump 77 = .ok (.iinc 4 1, 3) := by decide +kernel
theorem dX6_endChangesByJump_80 : decode cX6_endChangesByJump 80 = .ok (.goto (-75), 3) := by decide +kernel
theorem dX6_endChangesByJump_83 : decode cX6_endChangesByJump 83 = .ok (.iload_n 3, 1) := by decide +kernel
theorem dX6_endChangesByJump_84 : decode cX6_endChangesByJump 84 = .ok (.ireturn, 1) := by decide +kernel
theorem dX6_areOpposed_0 : decode cX6_areOpposed 0 = .ok (.aload_n 0, 1) := by decide +kernel
theorem dX6_areOpposed_1 : decode cX6_areOpposed 1 = .ok (.getfield 19, 3) := by decide +kernel
theorem dX6_areOpposed_4 : decode cX6_areOpposed 4 = .ok (.getfield 112, 3) := by decide +kernel
theorem dX6_areOpposed_7 : decode cX6_areOpposed 7 = .ok (.iload_n 1, 1) := by decide +kernel
theorem dX6_areOpposed_8 : decode cX6_areOpposed 8 = .ok (.iaload, 1) := by decide +kernel
theorem dX6_areOpposed_9 : decode cX6_areOpposed 9 = .ok (.aload_n 0, 1) := by decide +kernel
theorem dX6_areOpposed_10 : decode cX6_areOpposed 10 = .ok (.getfield 19, 3) := by decide +kernel
theorem dX6_areOpposed_13 : decode cX6_areOpposed 13 = .ok (.getfield 112, 3) := by decide +kernel
theorem dX6_areOpposed_16 : decode cX6_areOpposed 16 = .ok (.iload_n 2, 1) := by decide +kernel
theorem dX6_areOpposed_17 : decode cX6_areOpposed 17 = .ok (.iaload, 1) := by decide +kernel
theorem dX6_areOpposed_18 : decode cX6_areOpposed 18 = .ok (.if_icmp .eq 5, 3) := by decide +kernel
theorem dX6_areOpposed_21 : decode cX6_areOpposed 21 = .ok (.iconst 0, 1) := by decide +kernel
theorem dX6_areOpposed_22 : decode cX6_areOpposed 22 = .ok (.ireturn, 1) := by decide +kernel
theorem dX6_areOpposed_23 : decode cX6_areOpposed 23 = .ok (.iconst 0, 1) := by decide +kernel
theorem dX6_areOpposed_24 : decode cX6_areOpposed 24 = .ok (.istore_n 3, 1) := by decide +kernel
theorem dX6_areOpposed_25 : decode cX6_areOpposed 25 = .ok (.iload_n 3, 1) := by decide +kernel
theorem dX6_areOpposed_26 : decode cX6_areOpposed 26 = .ok (.aload_n 0, 1) := by decide +kernel
theorem dX6_areOpposed_27 : decode cX6_areOpposed 27 = .ok (.getfield 19, 3) := by decide +kernel
theorem dX6_areOpposed_30 : decode cX6_areOpposed 30 = .ok (.getfield 112, 3) := by decide +kernel
theorem dX6_areOpposed_33 : decode cX6_areOpposed 33 = .ok (.iload_n 1, 1) := by decide +kernel
theorem dX6_areOpposed_34 : decode cX6_areOpposed 34 = .ok (.iaload, 1) := by decide +kernel
theorem dX6_areOpposed_35 : decode cX6_areOpposed 35 = .ok (.if_icmp .gt 49, 3) := by decide +kernel
theorem dX6_areOpposed_38 : decode cX6_areOpposed 38 = .ok (.aload_n 0, 1) := by decide +kernel
theorem dX6_areOpposed_39 : decode cX6_areOpposed 39 = .ok (.iload_n 1, 1) := by decide +kernel
theorem dX6_areOpposed_40 : decode cX6_areOpposed 40 = .ok (.iload_n 3, 1) := by decide +kernel
theorem dX6_areOpposed_41 : decode cX6_areOpposed 41 = .ok (.invokevirtual 135, 3) := by decide +kernel
theorem dX6_areOpposed_44 : decode cX6_areOpposed 44 = .ok (.istore 4, 2) := by decide +kernel
theorem dX6_areOpposed_46 : decode cX6_areOpposed 46 = .ok (.aload_n 0, 1) := by decide +kernel
theorem dX6_areOpposed_47 : decode cX6_areOpposed 47 = .ok (.iload_n 2, 1) := by decide +kernel
theorem dX6_areOpposed_48 : decode cX6_areOpposed 48 = .ok (.iload_n 3, 1) := by decide +kernel
theorem dX6_areOpposed_49 : decode cX6_areOpposed 49 = .ok (.invokevirtual 135, 3) := by decide +kernel
theorem dX6_areOpposed_52 : decode cX6_areOpposed 52 = .ok (.istore 5, 2) := by decide +kernel
theorem dX6_areOpposed_54 : decode cX6_areOpposed 54 = .ok (.iload 4, 2) := by decide +kernel
theorem dX6_areOpposed_56 : decode cX6_areOpposed 56 = .ok (.ifCond .ne 9, 3) := by decide +kernel
theorem dX6_areOpposed_59 : decode cX6_areOpposed 59 = .ok (.iload 5, 2) := by decide +kernel
theorem dX6_areOpposed_61 : decode cX6_areOpposed 61 = .ok (.iconst 1, 1) := by decide +kernel
theorem dX6_areOpposed_62 : decode cX6_areOpposed 62 = .ok (.if_icmp .eq 14, 3) := by decide +kernel
theorem dX6_areOpposed_65 : decode cX6_areOpposed 65 = .ok (.iload 4, 2) := by decide +kernel
theorem dX6_areOpposed_67 : decode cX6_areOpposed 67 = .ok (.iconst 1, 1) := by decide +kernel
theorem dX6_areOpposed_68 : decode cX6_areOpposed 68 = .ok (.if_icmp .ne 10, 3) := by decide +kernel
theorem dX6_areOpposed_71 : decode cX6_areOpposed 71 = .ok (.iload 5, 2) := by decide +kernel
theorem dX6_areOpposed_73 : decode cX6_areOpposed 73 = .ok (.ifCond .ne 5, 3) := by decide +kernel
theorem dX6_areOpposed_76 : decode cX6_areOpposed 76 = .ok (.iconst 1, 1) := by decide +kernel
theorem dX6_areOpposed_77 : decode cX6_areOpposed 77 = .ok (.ireturn, 1) := by decide +kernel
theorem dX6_areOpposed_78 : decode cX6_areOpposed 78 = .ok (.iinc 3 1, 3) := by decide +kernel
theorem dX6_areOpposed_81 : decode cX6_areOpposed 81 = .ok (.goto (-56), 3) := by decide +kernel
theorem dX6_areOpposed_84 : decode cX6_areOpposed 84 = .ok (.iconst 0, 1) := by decide +kernel
theorem dX6_areOpposed_85 : decode cX6_areOpposed 85 = .ok (.ireturn, 1) := by decide +kernel
theorem dX6_lawfulOrders_0 : decode cX6_lawfulOrders 0 = .ok (.aload_n 0, 1) := by decide +kernel
theorem dX6_lawfulOrders_1 : decode cX6_lawfulOrders 1 = .ok (.getfield 48, 3) := by decide +kernel
theorem dX6_lawfulOrders_4 : decode cX6_lawfulOrders 4 = .ok (.iload_n 2, 1) := by decide +kernel
theorem dX6_lawfulOrders_5 : decode cX6_lawfulOrders 5 = .ok (.invokevirtual 273, 3) := by decide +kernel
theorem dX6_lawfulOrders_8 : decode cX6_lawfulOrders 8 = .ok (.istore_n 3, 1) := by decide +kernel
theorem dX6_lawfulOrders_9 : decode cX6_lawfulOrders 9 = .ok (.iconst 0, 1) := by decide +kernel
theorem dX6_lawfulOrders_10 : decode cX6_lawfulOrders 10 = .ok (.istore 4, 2) := by decide +kernel
theorem dX6_lawfulOrders_12 : decode cX6_lawfulOrders 12 = .ok (.iconst 1, 1) := by decide +kernel
theorem dX6_lawfulOrders_13 : decode cX6_lawfulOrders 13 = .ok (.istore 5, 2) := by decide +kernel
theorem dX6_lawfulOrders_15 : decode cX6_lawfulOrders 15 = .ok (.iconst 0, 1) := by decide +kernel
theorem dX6_lawfulOrders_16 : decode cX6_lawfulOrders 16 = .ok (.istore 6, 2) := by decide +kernel
theorem dX6_lawfulOrders_18 : decode cX6_lawfulOrders 18 = .ok (.iload 6, 2) := by decide +kernel
theorem dX6_lawfulOrders_20 : decode cX6_lawfulOrders 20 = .ok (.bipush 120, 2) := by decide +kernel
theorem dX6_lawfulOrders_22 : decode cX6_lawfulOrders 22 = .ok (.if_icmp .ge 48, 3) := by decide +kernel
theorem dX6_lawfulOrders_25 : decode cX6_lawfulOrders 25 = .ok (.iload 5, 2) := by decide +kernel
theorem dX6_lawfulOrders_27 : decode cX6_lawfulOrders 27 = .ok (.ifCond .eq 43, 3) := by decide +kernel
theorem dX6_lawfulOrders_30 : decode cX6_lawfulOrders 30 = .ok (.aload_n 0, 1) := by decide +kernel
theorem dX6_lawfulOrders_31 : decode cX6_lawfulOrders 31 = .ok (.iload_n 1, 1) := by decide +kernel
theorem dX6_lawfulOrders_32 : decode cX6_lawfulOrders 32 = .ok (.iload_n 3, 1) := by decide +kernel
theorem dX6_lawfulOrders_33 : decode cX6_lawfulOrders 33 = .ok (.invokevirtual 276, 3) := by decide +kernel
theorem dX6_lawfulOrders_36 : decode cX6_lawfulOrders 36 = .ok (.ifCond .eq 18, 3) := by decide +kernel
theorem dX6_lawfulOrders_39 : decode cX6_lawfulOrders 39 = .ok (.iload 4, 2) := by decide +kernel
theorem dX6_lawfulOrders_41 : decode cX6_lawfulOrders 41 = .ok (.ifCond .ne 10, 3) := by decide +kernel
theorem dX6_lawfulOrders_44 : decode cX6_lawfulOrders 44 = .ok (.aload_n 0, 1) := by decide +kernel
theorem dX6_lawfulOrders_45 : decode cX6_lawfulOrders 45 = .ok (.getfield 48, 3) := by decide +kernel
theorem dX6_lawfulOrders_48 : decode cX6_lawfulOrders 48 = .ok (.invokevirtual 279, 3) := by decide +kernel
theorem dX6_lawfulOrders_51 : decode cX6_lawfulOrders 51 = .ok (.iinc 4 1, 3) := by decide +kernel
theorem dX6_lawfulOrders_54 : decode cX6_lawfulOrders 54 = .ok (.aload_n 0, 1) := by decide +kernel
theorem dX6_lawfulOrders_55 : decode cX6_lawfulOrders 55 = .ok (.getfield 48, 3) := by decide +kernel
theorem dX6_lawfulOrders_58 : decode cX6_lawfulOrders 58 = .ok (.iload_n 3, 1) := by decide +kernel
theorem dX6_lawfulOrders_59 : decode cX6_lawfulOrders 59 = .ok (.invokevirtual 282, 3) := by decide +kernel
theorem dX6_lawfulOrders_62 : decode cX6_lawfulOrders 62 = .ok (.istore 5, 2) := by decide +kernel
theorem dX6_lawfulOrders_64 : decode cX6_lawfulOrders 64 = .ok (.iinc 6 1, 3) := by decide +kernel
theorem dX6_lawfulOrders_67 : decode cX6_lawfulOrders 67 = .ok (.goto (-49), 3) := by decide +kernel
theorem dX6_lawfulOrders_70 : decode cX6_lawfulOrders 70 = .ok (.iload 4, 2) := by decide +kernel
theorem dX6_lawfulOrders_72 : decode cX6_lawfulOrders 72 = .ok (.ireturn, 1) := by decide +kernel
theorem dX6_staysLawful_0 : decode cX6_staysLawful 0 = .ok (.iconst 0, 1) := by decide +kernel
theorem dX6_staysLawful_1 : decode cX6_staysLawful 1 = .ok (.istore_n 3, 1) := by decide +kernel
theorem dX6_staysLawful_2 : decode cX6_staysLawful 2 = .ok (.iload_n 3, 1) := by decide +kernel
theorem dX6_staysLawful_3 : decode cX6_staysLawful 3 = .ok (.aload_n 0, 1) := by decide +kernel
theorem dX6_staysLawful_4 : decode cX6_staysLawful 4 = .ok (.getfield 19, 3) := by decide +kernel
theorem dX6_staysLawful_7 : decode cX6_staysLawful 7 = .ok (.getfield 222, 3) := by decide +kernel
theorem dX6_staysLawful_10 : decode cX6_staysLawful 10 = .ok (.if_icmp .ge 31, 3) := by decide +kernel
theorem dX6_staysLawful_13 : decode cX6_staysLawful 13 = .ok (.aload_n 0, 1) := by decide +kernel
theorem dX6_staysLawful_14 : decode cX6_staysLawful 14 = .ok (.getfield 48, 3) := by decide +kernel
theorem dX6_staysLawful_17 : decode cX6_staysLawful 17 = .ok (.getfield 285, 3) := by decide +kernel
theorem dX6_staysLawful_20 : decode cX6_staysLawful 20 = .ok (.iload_n 3, 1) := by decide +kernel
theorem dX6_staysLawful_21 : decode cX6_staysLawful 21 = .ok (.aload_n 0, 1) := by decide +kernel
theorem dX6_staysLawful_22 : decode cX6_staysLawful 22 = .ok (.getfield 26, 3) := by decide +kernel
theorem dX6_staysLawful_25 : decode cX6_staysLawful 25 = .ok (.getfield 121, 3) := by decide +kernel
theorem dX6_staysLawful_28 : decode cX6_staysLawful 28 = .ok (.iload_n 1, 1) := by decide +kernel
theorem dX6_staysLawful_29 : decode cX6_staysLawful 29 = .ok (.iload_n 3, 1) := by decide +kernel
theorem dX6_staysLawful_30 : decode cX6_staysLawful 30 = .ok (.invokestatic 124, 3) := by decide +kernel
theorem dX6_staysLawful_33 : decode cX6_staysLawful 33 = .ok (.iaload, 1) := by decide +kernel
theorem dX6_staysLawful_34 : decode cX6_staysLawful 34 = .ok (.iastore, 1) := by decide +kernel
theorem dX6_staysLawful_35 : decode cX6_staysLawful 35 = .ok (.iinc 3 1, 3) := by decide +kernel
theorem dX6_staysLawful_38 : decode cX6_staysLawful 38 = .ok (.goto (-36), 3) := by decide +kernel
theorem dX6_staysLawful_41 : decode cX6_staysLawful 41 = .ok (.iconst 0, 1) := by decide +kernel
theorem dX6_staysLawful_42 : decode cX6_staysLawful 42 = .ok (.istore_n 3, 1) := by decide +kernel
theorem dX6_staysLawful_43 : decode cX6_staysLawful 43 = .ok (.iload_n 3, 1) := by decide +kernel
theorem dX6_staysLawful_44 : decode cX6_staysLawful 44 = .ok (.iload_n 2, 1) := by decide +kernel
theorem dX6_staysLawful_45 : decode cX6_staysLawful 45 = .ok (.if_icmp .ge 84, 3) := by decide +kernel
theorem dX6_staysLawful_48 : decode cX6_staysLawful 48 = .ok (.aload_n 0, 1) := by decide +kernel
theorem dX6_staysLawful_49 : decode cX6_staysLawful 49 = .ok (.getfield 48, 3) := by decide +kernel
theorem dX6_staysLawful_52 : decode cX6_staysLawful 52 = .ok (.getfield 286, 3) := by decide +kernel
theorem dX6_staysLawful_55 : decode cX6_staysLawful 55 = .ok (.iload_n 3, 1) := by decide +kernel
theorem dX6_staysLawful_56 : decode cX6_staysLawful 56 = .ok (.iaload, 1) := by decide +kernel
theorem dX6_staysLawful_57 : decode cX6_staysLawful 57 = .ok (.istore 4, 2) := by decide +kernel
theorem dX6_staysLawful_59 : decode cX6_staysLawful 59 = .ok (.aload_n 0, 1) := by decide +kernel
theorem dX6_staysLawful_60 : decode cX6_staysLawful 60 = .ok (.getfield 48, 3) := by decide +kernel
theorem dX6_staysLawful_63 : decode cX6_staysLawful 63 = .ok (.getfield 289, 3) := by decide +kernel
theorem dX6_staysLawful_66 : decode cX6_staysLawful 66 = .ok (.iload 4, 2) := by decide +kernel
theorem dX6_staysLawful_68 : decode cX6_staysLawful 68 = .ok (.iaload, 1) := by decide +kernel
theorem dX6_staysLawful_69 : decode cX6_staysLawful 69 = .ok (.istore 5, 2) := by decide +kernel
theorem dX6_staysLawful_71 : decode cX6_staysLawful 71 = .ok (.aload_n 0, 1) := by decide +kernel
theorem dX6_staysLawful_72 : decode cX6_staysLawful 72 = .ok (.getfield 48, 3) := by decide +kernel
theorem dX6_staysLawful_75 : decode cX6_staysLawful 75 = .ok (.getfield 285, 3) := by decide +kernel
theorem dX6_staysLawful_78 : decode cX6_staysLawful 78 = .ok (.iload 5, 2) := by decide +kernel
theorem dX6_staysLawful_80 : decode cX6_staysLawful 80 = .ok (.aload_n 0, 1) := by decide +kernel
theorem dX6_staysLawful_81 : decode cX6_staysLawful 81 = .ok (.getfield 48, 3) := by decide +kernel
theorem dX6_staysLawful_84 : decode cX6_staysLawful 84 = .ok (.getfield 285, 3) := by decide +kernel
theorem dX6_staysLawful_87 : decode cX6_staysLawful 87 = .ok (.iload 5, 2) := by decide +kernel
theorem dX6_staysLawful_89 : decode cX6_staysLawful 89 = .ok (.iaload, 1) := by decide +kernel
theorem dX6_staysLawful_90 : decode cX6_staysLawful 90 = .ok (.aload_n 0, 1) := by decide +kernel
theorem dX6_staysLawful_91 : decode cX6_staysLawful 91 = .ok (.getfield 48, 3) := by decide +kernel
theorem dX6_staysLawful_94 : decode cX6_staysLawful 94 = .ok (.getfield 291, 3) := by decide +kernel
theorem dX6_staysLawful_97 : decode cX6_staysLawful 97 = .ok (.iload 4, 2) := by decide +kernel
theorem dX6_staysLawful_99 : decode cX6_staysLawful 99 = .ok (.iaload, 1) := by decide +kernel
theorem dX6_staysLawful_100 : decode cX6_staysLawful 100 = .ok (.aload_n 0, 1) := by decide +kernel
theorem dX6_staysLawful_101 : decode cX6_staysLawful 101 = .ok (.getfield 19, 3) := by decide +kernel
theorem dX6_staysLawful_104 : decode cX6_staysLawful 104 = .ok (.getfield 112, 3) := by decide +kernel
theorem dX6_staysLawful_107 : decode cX6_staysLawful 107 = .ok (.iload 5, 2) := by decide +kernel
theorem dX6_staysLawful_109 : decode cX6_staysLawful 109 = .ok (.iaload, 1) := by decide +kernel
theorem dX6_staysLawful_110 : decode cX6_staysLawful 110 = .ok (.invokestatic 153, 3) := by decide +kernel
theorem dX6_staysLawful_113 : decode cX6_staysLawful 113 = .ok (.iastore, 1) := by decide +kernel
theorem dX6_staysLawful_114 : decode cX6_staysLawful 114 = .ok (.aload_n 0, 1) := by decide +kernel
theorem dX6_staysLawful_115 : decode cX6_staysLawful 115 = .ok (.invokevirtual 294, 3) := by decide +kernel
theorem dX6_staysLawful_118 : decode cX6_staysLawful 118 = .ok (.ifCond .eq 5, 3) := by decide +kernel
theorem dX6_staysLawful_121 : decode cX6_staysLawful 121 = .ok (.iconst 0, 1) := by decide +kernel
theorem dX6_staysLawful_122 : decode cX6_staysLawful 122 = .ok (.ireturn, 1) := by decide +kernel
theorem dX6_staysLawful_123 : decode cX6_staysLawful 123 = .ok (.iinc 3 1, 3) := by decide +kernel
theorem dX6_staysLawful_126 : decode cX6_staysLawful 126 = .ok (.goto (-83), 3) := by decide +kernel
theorem dX6_staysLawful_129 : decode cX6_staysLawful 129 = .ok (.iconst 1, 1) := by decide +kernel
theorem dX6_staysLawful_130 : decode cX6_staysLawful 130 = .ok (.ireturn, 1) := by decide +kernel
theorem dX6_isUnlawfulMeanwhile_0 : decode cX6_isUnlawfulMeanwhile 0 = .ok (.iconst 0, 1) := by decide +kernel
theorem dX6_isUnlawfulMeanwhile_1 : decode cX6_isUnlawfulMeanwhile 1 = .ok (.istore_n 1, 1) := by decide +kernel
theorem dX6_isUnlawfulMeanwhile_2 : decode cX6_isUnlawfulMeanwhile 2 = .ok (.iload_n 1, 1) := by decide +kernel
theorem dX6_isUnlawfulMeanwhile_3 : decode cX6_isUnlawfulMeanwhile 3 = .ok (.aload_n 0, 1) := by decide +kernel
theorem dX6_isUnlawfulMeanwhile_4 : decode cX6_isUnlawfulMeanwhile 4 = .ok (.getfield 19, 3) := by decide +kernel
theorem dX6_isUnlawfulMeanwhile_7 : decode cX6_isUnlawfulMeanwhile 7 = .ok (.getfield 222, 3) := by decide +kernel
theorem dX6_isUnlawfulMeanwhile_10 : decode cX6_isUnlawfulMeanwhile 10 = .ok (.if_icmp .ge 29, 3) := by decide +kernel
theorem dX6_isUnlawfulMeanwhile_13 : decode cX6_isUnlawfulMeanwhile 13 = .ok (.aload_n 0, 1) := by decide +kernel
theorem dX6_isUnlawfulMeanwhile_14 : decode cX6_isUnlawfulMeanwhile 14 = .ok (.iload_n 1, 1) := by decide +kernel
theorem dX6_isUnlawfulMeanwhile_15 : decode cX6_isUnlawfulMeanwhile 15 = .ok (.aload_n 0, 1) := by decide +kernel
theorem dX6_isUnlawfulMeanwhile_16 : decode cX6_isUnlawfulMeanwhile 16 = .ok (.getfield 48, 3) := by decide +kernel
theorem dX6_isUnlawfulMeanwhile_19 : decode cX6_isUnlawfulMeanwhile 19 = .ok (.getfield 285, 3) := by decide +kernel
theorem dX6_isUnlawfulMeanwhile_22 : decode cX6_isUnlawfulMeanwhile 22 = .ok (.iload_n 1, 1) := by decide +kernel
theorem dX6_isUnlawfulMeanwhile_23 : decode cX6_isUnlawfulMeanwhile 23 = .ok (.iaload, 1) := by decide +kernel
theorem dX6_isUnlawfulMeanwhile_24 : decode cX6_isUnlawfulMeanwhile 24 = .ok (.invokevirtual 135, 3) := by decide +kernel
theorem dX6_isUnlawfulMeanwhile_27 : decode cX6_isUnlawfulMeanwhile 27 = .ok (.iconst 3, 1) := by decide +kernel
theorem dX6_isUnlawfulMeanwhile_28 : decode cX6_isUnlawfulMeanwhile 28 = .ok (.if_icmp .ne 5, 3) := by decide +kernel
theorem dX6_isUnlawfulMeanwhile_31 : decode cX6_isUnlawfulMeanwhile 31 = .ok (.iconst 1, 1) := by decide +kernel
theorem dX6_isUnlawfulMeanwhile_32 : decode cX6_isUnlawfulMeanwhile 32 = .ok (.ireturn, 1) := by decide +kernel
theorem dX6_isUnlawfulMeanwhile_33 : decode cX6_isUnlawfulMeanwhile 33 = .ok (.iinc 1 1, 3) := by decide +kernel
theorem dX6_isUnlawfulMeanwhile_36 : decode cX6_isUnlawfulMeanwhile 36 = .ok (.goto (-34), 3) := by decide +kernel
theorem dX6_isUnlawfulMeanwhile_39 : decode cX6_isUnlawfulMeanwhile 39 = .ok (.iconst 0, 1) := by decide +kernel
theorem dX6_isUnlawfulMeanwhile_40 : decode cX6_isUnlawfulMeanwhile 40 = .ok (.ireturn, 1) := by decide +kernel
theorem dX6_canJump_0 : decode cX6_canJump 0 = .ok (.aload_n 0, 1) := by decide +kernel
theorem dX6_canJump_1 : decode cX6_canJump 1 = .ok (.getfield 19, 3) := by decide +kernel
theorem dX6_canJump_4 : decode cX6_canJump 4 = .ok (.getfield 141, 3) := by decide +kernel
theorem dX6_canJump_7 : decode cX6_canJump 7 = .ok (.iload_n 2, 1) := by decide +kernel
theorem dX6_canJump_8 : decode cX6_canJump 8 = .ok (.iaload, 1) := by decide +kernel
theorem dX6_canJump_9 : decode cX6_canJump 9 = .ok (.aload_n 0, 1) := by decide +kernel
theorem dX6_canJump_10 : decode cX6_canJump 10 = .ok (.getfield 19, 3) := by decide +kernel
theorem dX6_canJump_13 : decode cX6_canJump 13 = .ok (.getfield 141, 3) := by decide +kernel
theorem dX6_canJump_16 : decode cX6_canJump 16 = .ok (.iload_n 3, 1) := by decide +kernel
theorem dX6_canJump_17 : decode cX6_canJump 17 = .ok (.iaload, 1) := by decide +kernel
theorem dX6_canJump_18 : decode cX6_canJump 18 = .ok (.isub, 1) := by decide +kernel
theorem dX6_canJump_19 : decode cX6_canJump 19 = .ok (.invokestatic 298, 3) := by decide +kernel
theorem dX6_canJump_22 : decode cX6_canJump 22 = .ok (.istore 4, 2) := by decide +kernel
theorem dX6_canJump_24 : decode cX6_canJump 24 = .ok (.iload 4, 2) := by decide +kernel
theorem dX6_canJump_26 : decode cX6_canJump 26 = .ok (.aload_n 0, 1) := by decide +kernel
theorem dX6_canJump_27 : decode cX6_canJump 27 = .ok (.getfield 19, 3) := by decide +kernel
theorem dX6_canJump_30 : decode cX6_canJump 30 = .ok (.getfield 112, 3) := by decide +kernel
theorem dX6_canJump_33 : decode cX6_canJump 33 = .ok (.iload_n 1, 1) := by decide +kernel
theorem dX6_canJump_34 : decode cX6_canJump 34 = .ok (.iaload, 1) := by decide +kernel
theorem dX6_canJump_35 : decode cX6_canJump 35 = .ok (.if_icmp .gt 18, 3) := by decide +kernel
theorem dX6_canJump_38 : decode cX6_canJump 38 = .ok (.aload_n 0, 1) := by decide +kernel
theorem dX6_canJump_39 : decode cX6_canJump 39 = .ok (.iload_n 1, 1) := by decide +kernel
theorem dX6_canJump_40 : decode cX6_canJump 40 = .ok (.iload 4, 2) := by decide +kernel
theorem dX6_canJump_42 : decode cX6_canJump 42 = .ok (.invokevirtual 135, 3) := by decide +kernel
theorem dX6_canJump_45 : decode cX6_canJump 45 = .ok (.iconst 3, 1) := by decide +kernel
theorem dX6_canJump_46 : decode cX6_canJump 46 = .ok (.if_icmp .eq 7, 3) := by decide +kernel
theorem dX6_canJump_49 : decode cX6_canJump 49 = .ok (.iconst 1, 1) := by decide +kernel
theorem dX6_canJump_50 : decode cX6_canJump 50 = .ok (.goto 4, 3) := by decide +kernel
theorem dX6_canJump_53 : decode cX6_canJump 53 = .ok (.iconst 0, 1) := by decide +kernel
theorem dX6_canJump_54 : decode cX6_canJump 54 = .ok (.ireturn, 1) := by decide +kernel
theorem dX6_countJumpsTo_0 : decode cX6_countJumpsTo 0 = .ok (.iconst 0, 1) := by decide +kernel
theorem dX6_countJumpsTo_1 : decode cX6_countJumpsTo 1 = .ok (.istore_n 3, 1) := by decide +kernel
theorem dX6_countJumpsTo_2 : decode cX6_countJumpsTo 2 = .ok (.iload_n 3, 1) := by decide +kernel
theorem dX6_countJumpsTo_3 : decode cX6_countJumpsTo 3 = .ok (.aload_n 0, 1) := by decide +kernel
theorem dX6_countJumpsTo_4 : decode cX6_countJumpsTo 4 = .ok (.getfield 19, 3) := by decide +kernel
theorem dX6_countJumpsTo_7 : decode cX6_countJumpsTo 7 = .ok (.getfield 249, 3) := by decide +kernel
theorem dX6_countJumpsTo_10 : decode cX6_countJumpsTo 10 = .ok (.if_icmp .ge 17, 3) := by decide +kernel
theorem dX6_countJumpsTo_13 : decode cX6_countJumpsTo 13 = .ok (.aload_n 0, 1) := by decide +kernel
theorem dX6_countJumpsTo_14 : decode cX6_countJumpsTo 14 = .ok (.getfield 59, 3) := by decide +kernel
theorem dX6_countJumpsTo_17 : decode cX6_countJumpsTo 17 = .ok (.iload_n 3, 1) := by decide +kernel
theorem dX6_countJumpsTo_18 : decode cX6_countJumpsTo 18 = .ok (.bipush (-9), 2) := by decide +kernel
theorem dX6_countJumpsTo_20 : decode cX6_countJumpsTo 20 = .ok (.iastore, 1) := by decide +kernel
theorem dX6_countJumpsTo_21 : decode cX6_countJumpsTo 21 = .ok (.iinc 3 1, 3) := by decide +kernel
theorem dX6_countJumpsTo_24 : decode cX6_countJumpsTo 24 = .ok (.goto (-22), 3) := by decide +kernel
theorem dX6_countJumpsTo_27 : decode cX6_countJumpsTo 27 = .ok (.aload_n 0, 1) := by decide +kernel
theorem dX6_countJumpsTo_28 : decode cX6_countJumpsTo 28 = .ok (.getfield 59, 3) := by decide +kernel
theorem dX6_countJumpsTo_31 : decode cX6_countJumpsTo 31 = .ok (.iload_n 1, 1) := by decide +kernel
theorem dX6_countJumpsTo_32 : decode cX6_countJumpsTo 32 = .ok (.iconst 0, 1) := by decide +kernel
theorem dX6_countJumpsTo_33 : decode cX6_countJumpsTo 33 = .ok (.iastore, 1) := by decide +kernel
theorem dX6_countJumpsTo_34 : decode cX6_countJumpsTo 34 = .ok (.iconst 0, 1) := by decide +kernel
theorem dX6_countJumpsTo_35 : decode cX6_countJumpsTo 35 = .ok (.istore_n 3, 1) := by decide +kernel
theorem dX6_countJumpsTo_36 : decode cX6_countJumpsTo 36 = .ok (.iload_n 3, 1) := by decide +kernel
theorem dX6_countJumpsTo_37 : decode cX6_countJumpsTo 37 = .ok (.aload_n 0, 1) := by decide +kernel
theorem dX6_countJumpsTo_38 : decode cX6_countJumpsTo 38 = .ok (.getfield 19, 3) := by decide +kernel
theorem dX6_countJumpsTo_41 : decode cX6_countJumpsTo 41 = .ok (.getfield 249, 3) := by decide +kernel
theorem dX6_countJumpsTo_44 : decode cX6_countJumpsTo 44 = .ok (.if_icmp .ge 48, 3) := by decide +kernel
theorem dX6_countJumpsTo_47 : decode cX6_countJumpsTo 47 = .ok (.iconst 0, 1) := by decide +kernel
theorem dX6_countJumpsTo_48 : decode cX6_countJumpsTo 48 = .ok (.istore 4, 2) := by decide +kernel
theorem dX6_countJumpsTo_50 : decode cX6_countJumpsTo 50 = .ok (.iload 4, 2) := by decide +kernel
theorem dX6_countJumpsTo_52 : decode cX6_countJumpsTo 52 = .ok (.aload_n 0, 1) := by decide +kernel
theorem dX6_countJumpsTo_53 : decode cX6_countJumpsTo 53 = .ok (.getfield 19, 3) := by decide +kernel
theorem dX6_countJumpsTo_56 : decode cX6_countJumpsTo 56 = .ok (.getfield 249, 3) := by decide +kernel
theorem dX6_countJumpsTo_59 : decode cX6_countJumpsTo 59 = .ok (.if_icmp .ge 27, 3) := by decide +kernel
theorem dX6_countJumpsTo_62 : decode cX6_countJumpsTo 62 = .ok (.aload_n 0, 1) := by decide +kernel
theorem dX6_countJumpsTo_63 : decode cX6_countJumpsTo 63 = .ok (.getfield 59, 3) := by decide +kernel
theorem dX6_countJumpsTo_66 : decode cX6_countJumpsTo 66 = .ok (.iload 4, 2) := by decide +kernel
theorem dX6_countJumpsTo_68 : decode cX6_countJumpsTo 68 = .ok (.iaload, 1) := by decide +kernel
theorem dX6_countJumpsTo_69 : decode cX6_countJumpsTo 69 = .ok (.iload_n 3, 1) := by decide +kernel
theorem dX6_countJumpsTo_70 : decode cX6_countJumpsTo 70 = .ok (.if_icmp .ne 10, 3) := by decide +kernel
theorem dX6_countJumpsTo_73 : decode cX6_countJumpsTo 73 = .ok (.aload_n 0, 1) := by decide +kernel
theorem dX6_countJumpsTo_74 : decode cX6_countJumpsTo 74 = .ok (.iload 4, 2) := by decide +kernel
theorem dX6_countJumpsTo_76 : decode cX6_countJumpsTo 76 = .ok (.iload_n 2, 1) := by decide +kernel
theorem dX6_countJumpsTo_77 : decode cX6_countJumpsTo 77 = .ok (.invokevirtual 301, 3) := by decide +kernel
theorem dX6_countJumpsTo_80 : decode cX6_countJumpsTo 80 = .ok (.iinc 4 1, 3) := by decide +kernel
theorem dX6_countJumpsTo_83 : decode cX6_countJumpsTo 83 = .ok (.goto (-33), 3) := by decide +kernel
theorem dX6_countJumpsTo_86 : decode cX6_countJumpsTo 86 = .ok (.iinc 3 1, 3) := by decide +kernel
theorem dX6_countJumpsTo_89 : decode cX6_countJumpsTo 89 = .ok (.goto (-53), 3) := by decide +kernel
theorem dX6_countJumpsTo_92 : decode cX6_countJumpsTo 92 = .ok (.return_, 1) := by decide +kernel
theorem dX6_reachFrom_0 : decode cX6_reachFrom 0 = .ok (.iconst 0, 1) := by decide +kernel
theorem dX6_reachFrom_1 : decode cX6_reachFrom 1 = .ok (.istore_n 3, 1) := by decide +kernel
theorem dX6_reachFrom_2 : decode cX6_reachFrom 2 = .ok (.iload_n 3, 1) := by decide +kernel
theorem dX6_reachFrom_3 : decode cX6_reachFrom 3 = .ok (.aload_n 0, 1) := by decide +kernel
theorem dX6_reachFrom_4 : decode cX6_reachFrom 4 = .ok (.getfield 19, 3) := by decide +kernel
theorem dX6_reachFrom_7 : decode cX6_reachFrom 7 = .ok (.getfield 249, 3) := by decide +kernel
theorem dX6_reachFrom_10 : decode cX6_reachFrom 10 = .ok (.if_icmp .ge 44, 3) := by decide +kernel
theorem dX6_reachFrom_13 : decode cX6_reachFrom 13 = .ok (.aload_n 0, 1) := by decide +kernel
theorem dX6_reachFrom_14 : decode cX6_reachFrom 14 = .ok (.getfield 59, 3) := by decide +kernel
theorem dX6_reachFrom_17 : decode cX6_reachFrom 17 = .ok (.iload_n 3, 1) := by decide +kernel
theorem dX6_reachFrom_18 : decode cX6_reachFrom 18 = .ok (.iaload, 1) := by decide +kernel
theorem dX6_reachFrom_19 : decode cX6_reachFrom 19 = .ok (.bipush (-9), 2) := by decide +kernel
theorem dX6_reachFrom_21 : decode cX6_reachFrom 21 = .ok (.if_icmp .ne 27, 3) := by decide +kernel
theorem dX6_reachFrom_24 : decode cX6_reachFrom 24 = .ok (.aload_n 0, 1) := by decide +kernel
theorem dX6_reachFrom_25 : decode cX6_reachFrom 25 = .ok (.iload_n 2, 1) := by decide +kernel
theorem dX6_reachFrom_26 : decode cX6_reachFrom 26 = .ok (.iload_n 1, 1) := by decide +kernel
theorem dX6_reachFrom_27 : decode cX6_reachFrom 27 = .ok (.iload_n 3, 1) := by decide +kernel
theorem dX6_reachFrom_28 : decode cX6_reachFrom 28 = .ok (.invokevirtual 304, 3) := by decide +kernel
theorem dX6_reachFrom_31 : decode cX6_reachFrom 31 = .ok (.ifCond .eq 17, 3) := by decide +kernel
theorem dX6_reachFrom_34 : decode cX6_reachFrom 34 = .ok (.aload_n 0, 1) := by decide +kernel
theorem dX6_reachFrom_35 : decode cX6_reachFrom 35 = .ok (.getfield 59, 3) := by decide +kernel
theorem dX6_reachFrom_38 : decode cX6_reachFrom 38 = .ok (.iload_n 3, 1) := by decide +kernel
theorem dX6_reachFrom_39 : decode cX6_reachFrom 39 = .ok (.aload_n 0, 1) := by decide +kernel
theorem dX6_reachFrom_40 : decode cX6_reachFrom 40 = .ok (.getfield 59, 3) := by decide +kernel
theorem dX6_reachFrom_43 : decode cX6_reachFrom 43 = .ok (.iload_n 1, 1) := by decide +kernel
theorem dX6_reachFrom_44 : decode cX6_reachFrom 44 = .ok (.iaload, 1) := by decide +kernel
theorem dX6_reachFrom_45 : decode cX6_reachFrom 45 = .ok (.iconst 1, 1) := by decide +kernel
theorem dX6_reachFrom_46 : decode cX6_reachFrom 46 = .ok (.iadd, 1) := by decide +kernel
theorem dX6_reachFrom_47 : decode cX6_reachFrom 47 = .ok (.iastore, 1) := by decide +kernel
theorem dX6_reachFrom_48 : decode cX6_reachFrom 48 = .ok (.iinc 3 1, 3) := by decide +kernel
theorem dX6_reachFrom_51 : decode cX6_reachFrom 51 = .ok (.goto (-49), 3) := by decide +kernel
theorem dX6_reachFrom_54 : decode cX6_reachFrom 54 = .ok (.return_, 1) := by decide +kernel
theorem dX6_firstPlaceOnTheWay_0 : decode cX6_firstPlaceOnTheWay 0 = .ok (.iconst 0, 1) := by decide +kernel
theorem dX6_firstPlaceOnTheWay_1 : decode cX6_firstPlaceOnTheWay 1 = .ok (.istore_n 3, 1) := by decide +kernel
theorem dX6_firstPlaceOnTheWay_2 : decode cX6_firstPlaceOnTheWay 2 = .ok (.iload_n 3, 1) := by decide +kernel
theorem dX6_firstPlaceOnTheWay_3 : decode cX6_firstPlaceOnTheWay 3 = .ok (.aload_n 0, 1) := by decide +kernel
theorem dX6_firstPlaceOnTheWay_4 : decode cX6_firstPlaceOnTheWay 4 = .ok (.getfield 19, 3) := by decide +kernel
theorem dX6_firstPlaceOnTheWay_7 : decode cX6_firstPlaceOnTheWay 7 = .ok (.getfield 249, 3) := by decide +kernel
theorem dX6_firstPlaceOnTheWay_10 : decode cX6_firstPlaceOnTheWay 10 = .ok (.if_icmp .ge 38, 3) := by decide +kernel
theorem dX6_firstPlaceOnTheWay_13 : decode cX6_firstPlaceOnTheWay 13 = .ok (.aload_n 0, 1) := by decide +kernel
theorem dX6_firstPlaceOnTheWay_14 : decode cX6_firstPlaceOnTheWay 14 = .ok (.iload_n 2, 1) := by decide +kernel
theorem dX6_firstPlaceOnTheWay_15 : decode cX6_firstPlaceOnTheWay 15 = .ok (.iload_n 1, 1) := by decide +kernel
theorem dX6_firstPlaceOnTheWay_16 : decode cX6_firstPlaceOnTheWay 16 = .ok (.iload_n 3, 1) := by decide +kernel
theorem dX6_firstPlaceOnTheWay_17 : decode cX6_firstPlaceOnTheWay 17 = .ok (.invokevirtual 304, 3) := by decide +kernel
theorem dX6_firstPlaceOnTheWay_20 : decode cX6_firstPlaceOnTheWay 20 = .ok (.ifCond .eq 22, 3) := by decide +kernel
theorem dX6_firstPlaceOnTheWay_23 : decode cX6_firstPlaceOnTheWay 23 = .ok (.aload_n 0, 1) := by decide +kernel
theorem dX6_firstPlaceOnTheWay_24 : decode cX6_firstPlaceOnTheWay 24 = .ok (.getfield 59, 3) := by decide +kernel
theorem dX6_firstPlaceOnTheWay_27 : decode cX6_firstPlaceOnTheWay 27 = .ok (.iload_n 3, 1) := by decide +kernel
theorem dX6_firstPlaceOnTheWay_28 : decode cX6_firstPlaceOnTheWay 28 = .ok (.iaload, 1) := by decide +kernel
theorem dX6_firstPlaceOnTheWay_29 : decode cX6_firstPlaceOnTheWay 29 = .ok (.aload_n 0, 1) := by decide +kernel
theorem dX6_firstPlaceOnTheWay_30 : decode cX6_firstPlaceOnTheWay 30 = .ok (.getfield 59, 3) := by decide +kernel
theorem dX6_firstPlaceOnTheWay_33 : decode cX6_firstPlaceOnTheWay 33 = .ok (.iload_n 1, 1) := by decide +kernel
theorem dX6_firstPlaceOnTheWay_34 : decode cX6_firstPlaceOnTheWay 34 = .ok (.iaload, 1) := by decide +kernel
theorem dX6_firstPlaceOnTheWay_35 : decode cX6_firstPlaceOnTheWay 35 = .ok (.iconst 1, 1) := by decide +kernel
theorem dX6_firstPlaceOnTheWay_36 : decode cX6_firstPlaceOnTheWay 36 = .ok (.isub, 1) := by decide +kernel
theorem dX6_firstPlaceOnTheWay_37 : decode cX6_firstPlaceOnTheWay 37 = .ok (.if_icmp .ne 5, 3) := by decide +kernel
theorem dX6_firstPlaceOnTheWay_40 : decode cX6_firstPlaceOnTheWay 40 = .ok (.iload_n 3, 1) := by decide +kernel
theorem dX6_firstPlaceOnTheWay_41 : decode cX6_firstPlaceOnTheWay 41 = .ok (.ireturn, 1) := by decide +kernel
theorem dX6_firstPlaceOnTheWay_42 : decode cX6_firstPlaceOnTheWay 42 = .ok (.iinc 3 1, 3) := by decide +kernel
theorem dX6_firstPlaceOnTheWay_45 : decode cX6_firstPlaceOnTheWay 45 = .ok (.goto (-43), 3) := by decide +kernel
theorem dX6_firstPlaceOnTheWay_48 : decode cX6_firstPlaceOnTheWay 48 = .ok (.bipush (-9), 2) := by decide +kernel
theorem dX6_firstPlaceOnTheWay_50 : decode cX6_firstPlaceOnTheWay 50 = .ok (.ireturn, 1) := by decide +kernel
theorem dX6_fewestPartsOf_0 : decode cX6_fewestPartsOf 0 = .ok (.bipush (-9), 2) := by decide +kernel
theorem dX6_fewestPartsOf_2 : decode cX6_fewestPartsOf 2 = .ok (.istore_n 3, 1) := by decide +kernel
theorem dX6_fewestPartsOf_3 : decode cX6_fewestPartsOf 3 = .ok (.iload_n 1, 1) := by decide +kernel
theorem dX6_fewestPartsOf_4 : decode cX6_fewestPartsOf 4 = .ok (.aload_n 0, 1) := by decide +kernel
theorem dX6_fewestPartsOf_5 : decode cX6_fewestPartsOf 5 = .ok (.getfield 19, 3) := by decide +kernel
theorem dX6_fewestPartsOf_8 : decode cX6_fewestPartsOf 8 = .ok (.getfield 112, 3) := by decide +kernel
theorem dX6_fewestPartsOf_11 : decode cX6_fewestPartsOf 11 = .ok (.iload_n 2, 1) := by decide +kernel
theorem dX6_fewestPartsOf_12 : decode cX6_fewestPartsOf 12 = .ok (.iaload, 1) := by decide +kernel
theorem dX6_fewestPartsOf_13 : decode cX6_fewestPartsOf 13 = .ok (.invokestatic 252, 3) := by decide +kernel
theorem dX6_fewestPartsOf_16 : decode cX6_fewestPartsOf 16 = .ok (.istore 4, 2) := by decide +kernel
theorem dX6_fewestPartsOf_18 : decode cX6_fewestPartsOf 18 = .ok (.iload 4, 2) := by decide +kernel
theorem dX6_fewestPartsOf_20 : decode cX6_fewestPartsOf 20 = .ok (.iconst 1, 1) := by decide +kernel
theorem dX6_fewestPartsOf_21 : decode cX6_fewestPartsOf 21 = .ok (.if_icmp .lt 57, 3) := by decide +kernel
theorem dX6_fewestPartsOf_24 : decode cX6_fewestPartsOf 24 = .ok (.aload_n 0, 1) := by decide +kernel
theorem dX6_fewestPartsOf_25 : decode cX6_fewestPartsOf 25 = .ok (.getfield 63, 3) := by decide +kernel
theorem dX6_fewestPartsOf_28 : decode cX6_fewestPartsOf 28 = .ok (.iload_n 1, 1) := by decide +kernel
theorem dX6_fewestPartsOf_29 : decode cX6_fewestPartsOf 29 = .ok (.iload 4, 2) := by decide +kernel
theorem dX6_fewestPartsOf_31 : decode cX6_fewestPartsOf 31 = .ok (.isub, 1) := by decide +kernel
theorem dX6_fewestPartsOf_32 : decode cX6_fewestPartsOf 32 = .ok (.iaload, 1) := by decide +kernel
theorem dX6_fewestPartsOf_33 : decode cX6_fewestPartsOf 33 = .ok (.istore 5, 2) := by decide +kernel
theorem dX6_fewestPartsOf_35 : decode cX6_fewestPartsOf 35 = .ok (.aload_n 0, 1) := by decide +kernel
theorem dX6_fewestPartsOf_36 : decode cX6_fewestPartsOf 36 = .ok (.iload_n 2, 1) := by decide +kernel
theorem dX6_fewestPartsOf_37 : decode cX6_fewestPartsOf 37 = .ok (.iload 4, 2) := by decide +kernel
theorem dX6_fewestPartsOf_39 : decode cX6_fewestPartsOf 39 = .ok (.invokevirtual 135, 3) := by decide +kernel
theorem dX6_fewestPartsOf_42 : decode cX6_fewestPartsOf 42 = .ok (.iconst 3, 1) := by decide +kernel
theorem dX6_fewestPartsOf_43 : decode cX6_fewestPartsOf 43 = .ok (.if_icmp .eq 29, 3) := by decide +kernel
theorem dX6_fewestPartsOf_46 : decode cX6_fewestPartsOf 46 = .ok (.iload 5, 2) := by decide +kernel
theorem dX6_fewestPartsOf_48 : decode cX6_fewestPartsOf 48 = .ok (.bipush (-9), 2) := by decide +kernel
theorem dX6_fewestPartsOf_50 : decode cX6_fewestPartsOf 50 = .ok (.if_icmp .eq 22, 3) := by decide +kernel
theorem dX6_fewestPartsOf_53 : decode cX6_fewestPartsOf 53 = .ok (.iload_n 3, 1) := by decide +kernel
theorem dX6_fewestPartsOf_54 : decode cX6_fewestPartsOf 54 = .ok (.bipush (-9), 2) := by decide +kernel
theorem dX6_fewestPartsOf_56 : decode cX6_fewestPartsOf 56 = .ok (.if_icmp .eq 11, 3) := by decide +kernel
theorem dX6_fewestPartsOf_59 : decode cX6_fewestPartsOf 59 = .ok (.iload 5, 2) := by decide +kernel
theorem dX6_fewestPartsOf_61 : decode cX6_fewestPartsOf 61 = .ok (.iconst 1, 1) := by decide +kernel
theorem dX6_fewestPartsOf_62 : decode cX6_fewestPartsOf 62 = .ok (.iadd, 1) := by decide +kernel
theorem dX6_fewestPartsOf_63 : decode cX6_fewestPartsOf 63 = .ok (.iload_n 3, 1) := by decide +kernel
theorem dX6_fewestPartsOf_64 : decode cX6_fewestPartsOf 64 = .ok (.if_icmp .ge 8, 3) := by decide +kernel
theorem dX6_fewestPartsOf_67 : decode cX6_fewestPartsOf 67 = .ok (.iload 5, 2) := by decide +kernel
theorem dX6_fewestPartsOf_69 : decode cX6_fewestPartsOf 69 = .ok (.iconst 1, 1) := by decide +kernel
theorem dX6_fewestPartsOf_70 : decode cX6_fewestPartsOf 70 = .ok (.iadd, 1) := by decide +kernel
theorem dX6_fewestPartsOf_71 : decode cX6_fewestPartsOf 71 = .ok (.istore_n 3, 1) := by decide +kernel
theorem dX6_fewestPartsOf_72 : decode cX6_fewestPartsOf 72 = .ok (.iinc 4 (-1), 3) := by decide +kernel
theorem dX6_fewestPartsOf_75 : decode cX6_fewestPartsOf 75 = .ok (.goto (-57), 3) := by decide +kernel
theorem dX6_fewestPartsOf_78 : decode cX6_fewestPartsOf 78 = .ok (.iload_n 3, 1) := by decide +kernel
theorem dX6_fewestPartsOf_79 : decode cX6_fewestPartsOf 79 = .ok (.ireturn, 1) := by decide +kernel
theorem dX6_greatestPart_0 : decode cX6_greatestPart 0 = .ok (.iload_n 1, 1) := by decide +kernel
theorem dX6_greatestPart_1 : decode cX6_greatestPart 1 = .ok (.aload_n 0, 1) := by decide +kernel
theorem dX6_greatestPart_2 : decode cX6_greatestPart 2 = .ok (.getfield 19, 3) := by decide +kernel
theorem dX6_greatestPart_5 : decode cX6_greatestPart 5 = .ok (.getfield 112, 3) := by decide +kernel
theorem dX6_greatestPart_8 : decode cX6_greatestPart 8 = .ok (.iload_n 2, 1) := by decide +kernel
theorem dX6_greatestPart_9 : decode cX6_greatestPart 9 = .ok (.iaload, 1) := by decide +kernel
theorem dX6_greatestPart_10 : decode cX6_greatestPart 10 = .ok (.invokestatic 252, 3) := by decide +kernel
theorem dX6_greatestPart_13 : decode cX6_greatestPart 13 = .ok (.istore_n 3, 1) := by decide +kernel
theorem dX6_greatestPart_14 : decode cX6_greatestPart 14 = .ok (.iload_n 3, 1) := by decide +kernel
theorem dX6_greatestPart_15 : decode cX6_greatestPart 15 = .ok (.iconst 1, 1) := by decide +kernel
theorem dX6_greatestPart_16 : decode cX6_greatestPart 16 = .ok (.if_icmp .lt 40, 3) := by decide +kernel
theorem dX6_greatestPart_19 : decode cX6_greatestPart 19 = .ok (.aload_n 0, 1) := by decide +kernel
theorem dX6_greatestPart_20 : decode cX6_greatestPart 20 = .ok (.iload_n 2, 1) := by decide +kernel
theorem dX6_greatestPart_21 : decode cX6_greatestPart 21 = .ok (.iload_n 3, 1) := by decide +kernel
theorem dX6_greatestPart_22 : decode cX6_greatestPart 22 = .ok (.invokevirtual 135, 3) := by decide +kernel
theorem dX6_greatestPart_25 : decode cX6_greatestPart 25 = .ok (.iconst 3, 1) := by decide +kernel
theorem dX6_greatestPart_26 : decode cX6_greatestPart 26 = .ok (.if_icmp .eq 24, 3) := by decide +kernel
theorem dX6_greatestPart_29 : decode cX6_greatestPart 29 = .ok (.aload_n 0, 1) := by decide +kernel
theorem dX6_greatestPart_30 : decode cX6_greatestPart 30 = .ok (.getfield 63, 3) := by decide +kernel
theorem dX6_greatestPart_33 : decode cX6_greatestPart 33 = .ok (.iload_n 1, 1) := by decide +kernel
theorem dX6_greatestPart_34 : decode cX6_greatestPart 34 = .ok (.iload_n 3, 1) := by decide +kernel
theorem dX6_greatestPart_35 : decode cX6_greatestPart 35 = .ok (.isub, 1) := by decide +kernel
theorem dX6_greatestPart_36 : decode cX6_greatestPart 36 = .ok (.iaload, 1) := by decide +kernel
theorem dX6_greatestPart_37 : decode cX6_greatestPart 37 = .ok (.aload_n 0, 1) := by decide +kernel
theorem dX6_greatestPart_38 : decode cX6_greatestPart 38 = .ok (.getfield 63, 3) := by decide +kernel
theorem dX6_greatestPart_41 : decode cX6_greatestPart 41 = .ok (.iload_n 1, 1) := by decide +kernel
theorem dX6_greatestPart_42 : decode cX6_greatestPart 42 = .ok (.iaload, 1) := by decide +kernel
theorem dX6_greatestPart_43 : decode cX6_greatestPart 43 = .ok (.iconst 1, 1) := by decide +kernel
theorem dX6_greatestPart_44 : decode cX6_greatestPart 44 = .ok (.isub, 1) := by decide +kernel
theorem dX6_greatestPart_45 : decode cX6_greatestPart 45 = .ok (.if_icmp .ne 5, 3) := by decide +kernel
theorem dX6_greatestPart_48 : decode cX6_greatestPart 48 = .ok (.iload_n 3, 1) := by decide +kernel
theorem dX6_greatestPart_49 : decode cX6_greatestPart 49 = .ok (.ireturn, 1) := by decide +kernel
theorem dX6_greatestPart_50 : decode cX6_greatestPart 50 = .ok (.iinc 3 (-1), 3) := by decide +kernel
theorem dX6_greatestPart_53 : decode cX6_greatestPart 53 = .ok (.goto (-39), 3) := by decide +kernel
theorem dX6_greatestPart_56 : decode cX6_greatestPart 56 = .ok (.bipush (-9), 2) := by decide +kernel
theorem dX6_greatestPart_58 : decode cX6_greatestPart 58 = .ok (.ireturn, 1) := by decide +kernel
theorem dX6_endInYear_0 : decode cX6_endInYear 0 = .ok (.aload_n 0, 1) := by decide +kernel
theorem dX6_endInYear_1 : decode cX6_endInYear 1 = .ok (.iload_n 1, 1) := by decide +kernel
theorem dX6_endInYear_2 : decode cX6_endInYear 2 = .ok (.iload_n 3, 1) := by decide +kernel
theorem dX6_endInYear_3 : decode cX6_endInYear 3 = .ok (.iload_n 2, 1) := by decide +kernel
theorem dX6_endInYear_4 : decode cX6_endInYear 4 = .ok (.iload 4, 2) := by decide +kernel
theorem dX6_endInYear_6 : decode cX6_endInYear 6 = .ok (.imul, 1) := by decide +kernel
theorem dX6_endInYear_7 : decode cX6_endInYear 7 = .ok (.aload_n 0, 1) := by decide +kernel
theorem dX6_endInYear_8 : decode cX6_endInYear 8 = .ok (.getfield 19, 3) := by decide +kernel
theorem dX6_endInYear_11 : decode cX6_endInYear 11 = .ok (.getfield 112, 3) := by decide +kernel
theorem dX6_endInYear_14 : decode cX6_endInYear 14 = .ok (.iload_n 1, 1) := by decide +kernel
theorem dX6_endInYear_15 : decode cX6_endInYear 15 = .ok (.iaload, 1) := by decide +kernel
theorem dX6_endInYear_16 : decode cX6_endInYear 16 = .ok (.invokestatic 153, 3) := by decide +kernel
theorem dX6_endInYear_19 : decode cX6_endInYear 19 = .ok (.invokevirtual 135, 3) := by decide +kernel
theorem dX6_endInYear_22 : decode cX6_endInYear 22 = .ok (.ireturn, 1) := by decide +kernel
theorem dX6_agreesWithBooks_0 : decode cX6_agreesWithBooks 0 = .ok (.iconst 0, 1) := by decide +kernel
theorem dX6_agreesWithBooks_1 : decode cX6_agreesWithBooks 1 = .ok (.istore 4, 2) := by decide +kernel
theorem dX6_agreesWithBooks_3 : decode cX6_agreesWithBooks 3 = .ok (.iload 4, 2) := by decide +kernel
theorem dX6_agreesWithBooks_5 : decode cX6_agreesWithBooks 5 = .ok (.aload_n 0, 1) := by decide +kernel
theorem dX6_agreesWithBooks_6 : decode cX6_agreesWithBooks 6 = .ok (.getfield 55, 3) := by decide +kernel
theorem dX6_agreesWithBooks_9 : decode cX6_agreesWithBooks 9 = .ok (.getfield 105, 3) := by decide +kernel
theorem dX6_agreesWithBooks_12 : decode cX6_agreesWithBooks 12 = .ok (.if_icmp .ge 55, 3) := by decide +kernel
theorem dX6_agreesWithBooks_15 : decode cX6_agreesWithBooks 15 = .ok (.aload_n 0, 1) := by decide +kernel
theorem dX6_agreesWithBooks_16 : decode cX6_agreesWithBooks 16 = .ok (.getfield 55, 3) := by decide +kernel
theorem dX6_agreesWithBooks_19 : decode cX6_agreesWithBooks 19 = .ok (.getfield 307, 3) := by decide +kernel
theorem dX6_agreesWithBooks_22 : decode cX6_agreesWithBooks 22 = .ok (.iload 4, 2) := by decide +kernel
theorem dX6_agreesWithBooks_24 : decode cX6_agreesWithBooks 24 = .ok (.iaload, 1) := by decide +kernel
theorem dX6_agreesWithBooks_25 : decode cX6_agreesWithBooks 25 = .ok (.iload_n 1, 1) := by decide +kernel
theorem dX6_agreesWithBooks_26 : decode cX6_agreesWithBooks 26 = .ok (.if_icmp .ne 35, 3) := by decide +kernel
theorem dX6_agreesWithBooks_29 : decode cX6_agreesWithBooks 29 = .ok (.aload_n 0, 1) := by decide +kernel
theorem dX6_agreesWithBooks_30 : decode cX6_agreesWithBooks 30 = .ok (.iload_n 1, 1) := by decide +kernel
theorem dX6_agreesWithBooks_31 : decode cX6_agreesWithBooks 31 = .ok (.aload_n 0, 1) := by decide +kernel
theorem dX6_agreesWithBooks_32 : decode cX6_agreesWithBooks 32 = .ok (.getfield 55, 3) := by decide +kernel
theorem dX6_agreesWithBooks_35 : decode cX6_agreesWithBooks 35 = .ok (.getfield 308, 3) := by decide +kernel
theorem dX6_agreesWithBooks_38 : decode cX6_agreesWithBooks 38 = .ok (.iload 4, 2) := by decide +kernel
theorem dX6_agreesWithBooks_40 : decode cX6_agreesWithBooks 40 = .ok (.iaload, 1) := by decide +kernel
theorem dX6_agreesWithBooks_41 : decode cX6_agreesWithBooks 41 = .ok (.iload_n 2, 1) := by decide +kernel
theorem dX6_agreesWithBooks_42 : decode cX6_agreesWithBooks 42 = .ok (.iload_n 3, 1) := by decide +kernel
theorem dX6_agreesWithBooks_43 : decode cX6_agreesWithBooks 43 = .ok (.invokevirtual 218, 3) := by decide +kernel
theorem dX6_agreesWithBooks_46 : decode cX6_agreesWithBooks 46 = .ok (.aload_n 0, 1) := by decide +kernel
theorem dX6_agreesWithBooks_47 : decode cX6_agreesWithBooks 47 = .ok (.getfield 55, 3) := by decide +kernel
theorem dX6_agreesWithBooks_50 : decode cX6_agreesWithBooks 50 = .ok (.getfield 311, 3) := by decide +kernel
theorem dX6_agreesWithBooks_53 : decode cX6_agreesWithBooks 53 = .ok (.iload 4, 2) := by decide +kernel
theorem dX6_agreesWithBooks_55 : decode cX6_agreesWithBooks 55 = .ok (.iaload, 1) := by decide +kernel
theorem dX6_agreesWithBooks_56 : decode cX6_agreesWithBooks 56 = .ok (.if_icmp .eq 5, 3) := by decide +kernel
theorem dX6_agreesWithBooks_59 : decode cX6_agreesWithBooks 59 = .ok (.iconst 0, 1) := by decide +kernel
theorem dX6_agreesWithBooks_60 : decode cX6_agreesWithBooks 60 = .ok (.ireturn, 1) := by decide +kernel
theorem dX6_agreesWithBooks_61 : decode cX6_agreesWithBooks 61 = .ok (.iinc 4 1, 3) := by decide +kernel
theorem dX6_agreesWithBooks_64 : decode cX6_agreesWithBooks 64 = .ok (.goto (-61), 3) := by decide +kernel
theorem dX6_agreesWithBooks_67 : decode cX6_agreesWithBooks 67 = .ok (.iconst 1, 1) := by decide +kernel
theorem dX6_agreesWithBooks_68 : decode cX6_agreesWithBooks 68 = .ok (.ireturn, 1) := by decide +kernel
theorem dX6_rateAsLife_0 : decode cX6_rateAsLife 0 = .ok (.aload_n 0, 1) := by decide +kernel
theorem dX6_rateAsLife_1 : decode cX6_rateAsLife 1 = .ok (.dup, 1) := by decide +kernel
theorem dX6_rateAsLife_2 : decode cX6_rateAsLife 2 = .ok (.getfield 66, 3) := by decide +kernel
theorem dX6_rateAsLife_5 : decode cX6_rateAsLife 5 = .ok (.lconst 1, 1) := by decide +kernel
theorem dX6_rateAsLife_6 : decode cX6_rateAsLife 6 = .ok (.ladd, 1) := by decide +kernel
theorem dX6_rateAsLife_7 : decode cX6_rateAsLife 7 = .ok (.putfield 66, 3) := by decide +kernel
theorem dX6_rateAsLife_10 : decode cX6_rateAsLife 10 = .ok (.iconst 0, 1) := by decide +kernel
theorem dX6_rateAsLife_11 : decode cX6_rateAsLife 11 = .ok (.istore_n 2, 1) := by decide +kernel
theorem dX6_rateAsLife_12 : decode cX6_rateAsLife 12 = .ok (.iconst 0, 1) := by decide +kernel
theorem dX6_rateAsLife_13 : decode cX6_rateAsLife 13 = .ok (.istore_n 3, 1) := by decide +kernel
theorem dX6_rateAsLife_14 : decode cX6_rateAsLife 14 = .ok (.iload_n 3, 1) := by decide +kernel
theorem dX6_rateAsLife_15 : decode cX6_rateAsLife 15 = .ok (.aload_n 0, 1) := by decide +kernel
theorem dX6_rateAsLife_16 : decode cX6_rateAsLife 16 = .ok (.getfield 19, 3) := by decide +kernel
theorem dX6_rateAsLife_19 : decode cX6_rateAsLife 19 = .ok (.getfield 222, 3) := by decide +kernel
theorem dX6_rateAsLife_22 : decode cX6_rateAsLife 22 = .ok (.if_icmp .ge 25, 3) := by decide +kernel
theorem dX6_rateAsLife_25 : decode cX6_rateAsLife 25 = .ok (.iload_n 2, 1) := by decide +kernel
theorem dX6_rateAsLife_26 : decode cX6_rateAsLife 26 = .ok (.aload_n 0, 1) := by decide +kernel
theorem dX6_rateAsLife_27 : decode cX6_rateAsLife 27 = .ok (.getfield 26, 3) := by decide +kernel
theorem dX6_rateAsLife_30 : decode cX6_rateAsLife 30 = .ok (.getfield 121, 3) := by decide +kernel
theorem dX6_rateAsLife_33 : decode cX6_rateAsLife 33 = .ok (.iload_n 1, 1) := by decide +kernel
theorem dX6_rateAsLife_34 : decode cX6_rateAsLife 34 = .ok (.iload_n 3, 1) := by decide +kernel
theorem dX6_rateAsLife_35 : decode cX6_rateAsLife 35 = .ok (.invokestatic 124, 3) := by decide +kernel
theorem dX6_rateAsLife_38 : decode cX6_rateAsLife 38 = .ok (.iaload, 1) := by decide +kernel
theorem dX6_rateAsLife_39 : decode cX6_rateAsLife 39 = .ok (.iadd, 1) := by decide +kernel
theorem dX6_rateAsLife_40 : decode cX6_rateAsLife 40 = .ok (.istore_n 2, 1) := by decide +kernel
theorem dX6_rateAsLife_41 : decode cX6_rateAsLife 41 = .ok (.iinc 3 1, 3) := by decide +kernel
theorem dX6_rateAsLife_44 : decode cX6_rateAsLife 44 = .ok (.goto (-30), 3) := by decide +kernel
theorem dX6_rateAsLife_47 : decode cX6_rateAsLife 47 = .ok (.iload_n 2, 1) := by decide +kernel
theorem dX6_rateAsLife_48 : decode cX6_rateAsLife 48 = .ok (.ireturn, 1) := by decide +kernel
theorem dX6_rateAsChild_0 : decode cX6_rateAsChild 0 = .ok (.aload_n 0, 1) := by decide +kernel
theorem dX6_rateAsChild_1 : decode cX6_rateAsChild 1 = .ok (.dup, 1) := by decide +kernel
theorem dX6_rateAsChild_2 : decode cX6_rateAsChild 2 = .ok (.getfield 66, 3) := by decide +kernel
theorem dX6_rateAsChild_5 : decode cX6_rateAsChild 5 = .ok (.ldc2_w 314, 3) := by decide +kernel
theorem dX6_rateAsChild_8 : decode cX6_rateAsChild 8 = .ok (.ladd, 1) := by decide +kernel
theorem dX6_rateAsChild_9 : decode cX6_rateAsChild 9 = .ok (.putfield 66, 3) := by decide +kernel
theorem dX6_rateAsChild_12 : decode cX6_rateAsChild 12 = .ok (.aload_n 0, 1) := by decide +kernel
theorem dX6_rateAsChild_13 : decode cX6_rateAsChild 13 = .ok (.iload_n 1, 1) := by decide +kernel
theorem dX6_rateAsChild_14 : decode cX6_rateAsChild 14 = .ok (.invokevirtual 228, 3) := by decide +kernel
theorem dX6_rateAsChild_17 : decode cX6_rateAsChild 17 = .ok (.aload_n 0, 1) := by decide +kernel
theorem dX6_rateAsChild_18 : decode cX6_rateAsChild 18 = .ok (.iconst 1, 1) := by decide +kernel
theorem dX6_rateAsChild_19 : decode cX6_rateAsChild 19 = .ok (.iload_n 1, 1) := by decide +kernel
theorem dX6_rateAsChild_20 : decode cX6_rateAsChild 20 = .ok (.invokevirtual 266, 3) := by decide +kernel
theorem dX6_rateAsChild_23 : decode cX6_rateAsChild 23 = .ok (.iadd, 1) := by decide +kernel
theorem dX6_rateAsChild_24 : decode cX6_rateAsChild 24 = .ok (.ireturn, 1) := by decide +kernel
theorem dX6_rateAsFiance_0 : decode cX6_rateAsFiance 0 = .ok (.aload_n 0, 1) := by decide +kernel
theorem dX6_rateAsFiance_1 : decode cX6_rateAsFiance 1 = .ok (.dup, 1) := by decide +kernel
theorem dX6_rateAsFiance_2 : decode cX6_rateAsFiance 2 = .ok (.getfield 66, 3) := by decide +kernel
theorem dX6_rateAsFiance_5 : decode cX6_rateAsFiance 5 = .ok (.ldc2_w 316, 3) := by decide +kernel
theorem dX6_rateAsFiance_8 : decode cX6_rateAsFiance 8 = .ok (.ladd, 1) := by decide +kernel
theorem dX6_rateAsFiance_9 : decode cX6_rateAsFiance 9 = .ok (.putfield 66, 3) := by decide +kernel
theorem dX6_rateAsFiance_12 : decode cX6_rateAsFiance 12 = .ok (.aload_n 0, 1) := by decide +kernel
theorem dX6_rateAsFiance_13 : decode cX6_rateAsFiance 13 = .ok (.iload_n 1, 1) := by decide +kernel
theorem dX6_rateAsFiance_14 : decode cX6_rateAsFiance 14 = .ok (.invokevirtual 228, 3) := by decide +kernel
theorem dX6_rateAsFiance_17 : decode cX6_rateAsFiance 17 = .ok (.aload_n 0, 1) := by decide +kernel
theorem dX6_rateAsFiance_18 : decode cX6_rateAsFiance 18 = .ok (.iconst 2, 1) := by decide +kernel
theorem dX6_rateAsFiance_19 : decode cX6_rateAsFiance 19 = .ok (.iload_n 1, 1) := by decide +kernel
theorem dX6_rateAsFiance_20 : decode cX6_rateAsFiance 20 = .ok (.invokevirtual 266, 3) := by decide +kernel
theorem dX6_rateAsFiance_23 : decode cX6_rateAsFiance 23 = .ok (.isub, 1) := by decide +kernel
theorem dX6_rateAsFiance_24 : decode cX6_rateAsFiance 24 = .ok (.ireturn, 1) := by decide +kernel
theorem dX6_rateAsThirdSon_0 : decode cX6_rateAsThirdSon 0 = .ok (.aload_n 0, 1) := by decide +kernel
theorem dX6_rateAsThirdSon_1 : decode cX6_rateAsThirdSon 1 = .ok (.dup, 1) := by decide +kernel
theorem dX6_rateAsThirdSon_2 : decode cX6_rateAsThirdSon 2 = .ok (.getfield 66, 3) := by decide +kernel
theorem dX6_rateAsThirdSon_5 : decode cX6_rateAsThirdSon 5 = .ok (.ldc2_w 318, 3) := by decide +kernel
theorem dX6_rateAsThirdSon_8 : decode cX6_rateAsThirdSon 8 = .ok (.ladd, 1) := by decide +kernel
theorem dX6_rateAsThirdSon_9 : decode cX6_rateAsThirdSon 9 = .ok (.putfield 66, 3) := by decide +kernel
theorem dX6_rateAsThirdSon_12 : decode cX6_rateAsThirdSon 12 = .ok (.iconst 2, 1) := by decide +kernel
theorem dX6_rateAsThirdSon_13 : decode cX6_rateAsThirdSon 13 = .ok (.aload_n 0, 1) := by decide +kernel
theorem dX6_rateAsThirdSon_14 : decode cX6_rateAsThirdSon 14 = .ok (.iload_n 1, 1) := by decide +kernel
theorem dX6_rateAsThirdSon_15 : decode cX6_rateAsThirdSon 15 = .ok (.invokevirtual 231, 3) := by decide +kernel
theorem dX6_rateAsThirdSon_18 : decode cX6_rateAsThirdSon 18 = .ok (.imul, 1) := by decide +kernel
theorem dX6_rateAsThirdSon_19 : decode cX6_rateAsThirdSon 19 = .ok (.ireturn, 1) := by decide +kernel
theorem dX6_rateAsWidow_0 : decode cX6_rateAsWidow 0 = .ok (.aload_n 0, 1) := by decide +kernel
theorem dX6_rateAsWidow_1 : decode cX6_rateAsWidow 1 = .ok (.dup, 1) := by decide +kernel
theorem dX6_rateAsWidow_2 : decode cX6_rateAsWidow 2 = .ok (.getfield 66, 3) := by decide +kernel
theorem dX6_rateAsWidow_5 : decode cX6_rateAsWidow 5 = .ok (.ldc2_w 320, 3) := by decide +kernel
theorem dX6_rateAsWidow_8 : decode cX6_rateAsWidow 8 = .ok (.ladd, 1) := by decide +kernel
theorem dX6_rateAsWidow_9 : decode cX6_rateAsWidow 9 = .ok (.putfield 66, 3) := by decide +kernel
theorem dX6_rateAsWidow_12 : decode cX6_rateAsWidow 12 = .ok (.aload_n 0, 1) := by decide +kernel
theorem dX6_rateAsWidow_13 : decode cX6_rateAsWidow 13 = .ok (.iload_n 1, 1) := by decide +kernel
theorem dX6_rateAsWidow_14 : decode cX6_rateAsWidow 14 = .ok (.invokevirtual 234, 3) := by decide +kernel
theorem dX6_rateAsWidow_17 : decode cX6_rateAsWidow 17 = .ok (.iload_n 1, 1) := by decide +kernel
theorem dX6_rateAsWidow_18 : decode cX6_rateAsWidow 18 = .ok (.iadd, 1) := by decide +kernel
theorem dX6_rateAsWidow_19 : decode cX6_rateAsWidow 19 = .ok (.ireturn, 1) := by decide +kernel
theorem dX6_rateAsSmuggler_0 : decode cX6_rateAsSmuggler 0 = .ok (.aload_n 0, 1) := by decide +kernel
theorem dX6_rateAsSmuggler_1 : decode cX6_rateAsSmuggler 1 = .ok (.dup, 1) := by decide +kernel
theorem dX6_rateAsSmuggler_2 : decode cX6_rateAsSmuggler 2 = .ok (.getfield 66, 3) := by decide +kernel
theorem dX6_rateAsSmuggler_5 : decode cX6_rateAsSmuggler 5 = .ok (.ldc2_w 322, 3) := by decide +kernel
theorem dX6_rateAsSmuggler_8 : decode cX6_rateAsSmuggler 8 = .ok (.ladd, 1) := by decide +kernel
theorem dX6_rateAsSmuggler_9 : decode cX6_rateAsSmuggler 9 = .ok (.putfield 66, 3) := by decide +kernel
theorem dX6_rateAsSmuggler_12 : decode cX6_rateAsSmuggler 12 = .ok (.aload_n 0, 1) := by decide +kernel
theorem dX6_rateAsSmuggler_13 : decode cX6_rateAsSmuggler 13 = .ok (.iload_n 1, 1) := by decide +kernel
theorem dX6_rateAsSmuggler_14 : decode cX6_rateAsSmuggler 14 = .ok (.invokevirtual 228, 3) := by decide +kernel
theorem dX6_rateAsSmuggler_17 : decode cX6_rateAsSmuggler 17 = .ok (.aload_n 0, 1) := by decide +kernel
theorem dX6_rateAsSmuggler_18 : decode cX6_rateAsSmuggler 18 = .ok (.getfield 19, 3) := by decide +kernel
theorem dX6_rateAsSmuggler_21 : decode cX6_rateAsSmuggler 21 = .ok (.getfield 175, 3) := by decide +kernel
theorem dX6_rateAsSmuggler_24 : decode cX6_rateAsSmuggler 24 = .ok (.iadd, 1) := by decide +kernel
theorem dX6_rateAsSmuggler_25 : decode cX6_rateAsSmuggler 25 = .ok (.ireturn, 1) := by decide +kernel
theorem dJ6_bitCount_0f7a4_0 : decode cJ6_bitCount_0f7a4 0 = .ok (.iload_n 0, 1) := by decide +kernel
theorem dJ6_bitCount_0f7a4_1 : decode cJ6_bitCount_0f7a4 1 = .ok (.iload_n 0, 1) := by decide +kernel
theorem dJ6_bitCount_0f7a4_2 : decode cJ6_bitCount_0f7a4 2 = .ok (.iconst 1, 1) := by decide +kernel
theorem dJ6_bitCount_0f7a4_3 : decode cJ6_bitCount_0f7a4 3 = .ok (.iushr, 1) := by decide +kernel
theorem dJ6_bitCount_0f7a4_4 : decode cJ6_bitCount_0f7a4 4 = .ok (.ldc_w 265, 3) := by decide +kernel
theorem dJ6_bitCount_0f7a4_7 : decode cJ6_bitCount_0f7a4 7 = .ok (.iand, 1) := by decide +kernel
theorem dJ6_bitCount_0f7a4_8 : decode cJ6_bitCount_0f7a4 8 = .ok (.isub, 1) := by decide +kernel
theorem dJ6_bitCount_0f7a4_9 : decode cJ6_bitCount_0f7a4 9 = .ok (.istore_n 0, 1) := by decide +kernel
theorem dJ6_bitCount_0f7a4_10 : decode cJ6_bitCount_0f7a4 10 = .ok (.iload_n 0, 1) := by decide +kernel
theorem dJ6_bitCount_0f7a4_11 : decode cJ6_bitCount_0f7a4 11 = .ok (.ldc_w 266, 3) := by decide +kernel
theorem dJ6_bitCount_0f7a4_14 : decode cJ6_bitCount_0f7a4 14 = .ok (.iand, 1) := by decide +kernel
theorem dJ6_bitCount_0f7a4_15 : decode cJ6_bitCount_0f7a4 15 = .ok (.iload_n 0, 1) := by decide +kernel
theorem dJ6_bitCount_0f7a4_16 : decode cJ6_bitCount_0f7a4 16 = .ok (.iconst 2, 1) := by decide +kernel
theorem dJ6_bitCount_0f7a4_17 : decode cJ6_bitCount_0f7a4 17 = .ok (.iushr, 1) := by decide +kernel
theorem dJ6_bitCount_0f7a4_18 : decode cJ6_bitCount_0f7a4 18 = .ok (.ldc_w 266, 3) := by decide +kernel
theorem dJ6_bitCount_0f7a4_21 : decode cJ6_bitCount_0f7a4 21 = .ok (.iand, 1) := by decide +kernel
theorem dJ6_bitCount_0f7a4_22 : decode cJ6_bitCount_0f7a4 22 = .ok (.iadd, 1) := by decide +kernel
theorem dJ6_bitCount_0f7a4_23 : decode cJ6_bitCount_0f7a4 23 = .ok (.istore_n 0, 1) := by decide +kernel
theorem dJ6_bitCount_0f7a4_24 : decode cJ6_bitCount_0f7a4 24 = .ok (.iload_n 0, 1) := by decide +kernel
theorem dJ6_bitCount_0f7a4_25 : decode cJ6_bitCount_0f7a4 25 = .ok (.iload_n 0, 1) := by decide +kernel
theorem dJ6_bitCount_0f7a4_26 : decode cJ6_bitCount_0f7a4 26 = .ok (.iconst 4, 1) := by decide +kernel
theorem dJ6_bitCount_0f7a4_27 : decode cJ6_bitCount_0f7a4 27 = .ok (.iushr, 1) := by decide +kernel
theorem dJ6_bitCount_0f7a4_28 : decode cJ6_bitCount_0f7a4 28 = .ok (.iadd, 1) := by decide +kernel
theorem dJ6_bitCount_0f7a4_29 : decode cJ6_bitCount_0f7a4 29 = .ok (.ldc_w 267, 3) := by decide +kernel
theorem dJ6_bitCount_0f7a4_32 : decode cJ6_bitCount_0f7a4 32 = .ok (.iand, 1) := by decide +kernel
theorem dJ6_bitCount_0f7a4_33 : decode cJ6_bitCount_0f7a4 33 = .ok (.istore_n 0, 1) := by decide +kernel
theorem dJ6_bitCount_0f7a4_34 : decode cJ6_bitCount_0f7a4 34 = .ok (.iload_n 0, 1) := by decide +kernel
theorem dJ6_bitCount_0f7a4_35 : decode cJ6_bitCount_0f7a4 35 = .ok (.iload_n 0, 1) := by decide +kernel
theorem dJ6_bitCount_0f7a4_36 : decode cJ6_bitCount_0f7a4 36 = .ok (.bipush 8, 2) := by decide +kernel
theorem dJ6_bitCount_0f7a4_38 : decode cJ6_bitCount_0f7a4 38 = .ok (.iushr, 1) := by decide +kernel
theorem dJ6_bitCount_0f7a4_39 : decode cJ6_bitCount_0f7a4 39 = .ok (.iadd, 1) := by decide +kernel
theorem dJ6_bitCount_0f7a4_40 : decode cJ6_bitCount_0f7a4 40 = .ok (.istore_n 0, 1) := by decide +kernel
theorem dJ6_bitCount_0f7a4_41 : decode cJ6_bitCount_0f7a4 41 = .ok (.iload_n 0, 1) := by decide +kernel
theorem dJ6_bitCount_0f7a4_42 : decode cJ6_bitCount_0f7a4 42 = .ok (.iload_n 0, 1) := by decide +kernel
theorem dJ6_bitCount_0f7a4_43 : decode cJ6_bitCount_0f7a4 43 = .ok (.bipush 16, 2) := by decide +kernel
theorem dJ6_bitCount_0f7a4_45 : decode cJ6_bitCount_0f7a4 45 = .ok (.iushr, 1) := by decide +kernel
theorem dJ6_bitCount_0f7a4_46 : decode cJ6_bitCount_0f7a4 46 = .ok (.iadd, 1) := by decide +kernel
theorem dJ6_bitCount_0f7a4_47 : decode cJ6_bitCount_0f7a4 47 = .ok (.istore_n 0, 1) := by decide +kernel
theorem dJ6_bitCount_0f7a4_48 : decode cJ6_bitCount_0f7a4 48 = .ok (.iload_n 0, 1) := by decide +kernel
theorem dJ6_bitCount_0f7a4_49 : decode cJ6_bitCount_0f7a4 49 = .ok (.bipush 63, 2) := by decide +kernel
theorem dJ6_bitCount_0f7a4_51 : decode cJ6_bitCount_0f7a4 51 = .ok (.iand, 1) := by decide +kernel
theorem dJ6_bitCount_0f7a4_52 : decode cJ6_bitCount_0f7a4 52 = .ok (.ireturn, 1) := by decide +kernel
theorem dJ9_abs_0f7a4_0 : decode cJ9_abs_0f7a4 0 = .ok (.iload_n 0, 1) := by decide +kernel
theorem dJ9_abs_0f7a4_1 : decode cJ9_abs_0f7a4 1 = .ok (.ifCond .ge 8, 3) := by decide +kernel
theorem dJ9_abs_0f7a4_4 : decode cJ9_abs_0f7a4 4 = .ok (.iload_n 0, 1) := by decide +kernel
theorem dJ9_abs_0f7a4_5 : decode cJ9_abs_0f7a4 5 = .ok (.ineg, 1) := by decide +kernel
theorem dJ9_abs_0f7a4_6 : decode cJ9_abs_0f7a4 6 = .ok (.goto 4, 3) := by decide +kernel
theorem dJ9_abs_0f7a4_9 : decode cJ9_abs_0f7a4 9 = .ok (.iload_n 0, 1) := by decide +kernel
theorem dJ9_abs_0f7a4_10 : decode cJ9_abs_0f7a4 10 = .ok (.ireturn, 1) := by decide +kernel
theorem dJ9_max_7cf53_0 : decode cJ9_max_7cf53 0 = .ok (.iload_n 0, 1) := by decide +kernel
theorem dJ9_max_7cf53_1 : decode cJ9_max_7cf53 1 = .ok (.iload_n 1, 1) := by decide +kernel
theorem dJ9_max_7cf53_2 : decode cJ9_max_7cf53 2 = .ok (.if_icmp .lt 7, 3) := by decide +kernel
theorem dJ9_max_7cf53_5 : decode cJ9_max_7cf53 5 = .ok (.iload_n 0, 1) := by decide +kernel
theorem dJ9_max_7cf53_6 : decode cJ9_max_7cf53 6 = .ok (.goto 4, 3) := by decide +kernel
theorem dJ9_max_7cf53_9 : decode cJ9_max_7cf53 9 = .ok (.iload_n 1, 1) := by decide +kernel
theorem dJ9_max_7cf53_10 : decode cJ9_max_7cf53 10 = .ok (.ireturn, 1) := by decide +kernel
theorem dJ9_min_7cf53_0 : decode cJ9_min_7cf53 0 = .ok (.iload_n 0, 1) := by decide +kernel
theorem dJ9_min_7cf53_1 : decode cJ9_min_7cf53 1 = .ok (.iload_n 1, 1) := by decide +kernel
theorem dJ9_min_7cf53_2 : decode cJ9_min_7cf53 2 = .ok (.if_icmp .gt 7, 3) := by decide +kernel
theorem dJ9_min_7cf53_5 : decode cJ9_min_7cf53 5 = .ok (.iload_n 0, 1) := by decide +kernel
theorem dJ9_min_7cf53_6 : decode cJ9_min_7cf53 6 = .ok (.goto 4, 3) := by decide +kernel
theorem dJ9_min_7cf53_9 : decode cJ9_min_7cf53 9 = .ok (.iload_n 1, 1) := by decide +kernel
theorem dJ9_min_7cf53_10 : decode cJ9_min_7cf53 10 = .ok (.ireturn, 1) := by decide +kernel
