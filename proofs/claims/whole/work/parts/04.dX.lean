theorem dX0_init_0 : decode cX0_init 0 = .ok (.aload_n 0, 1) := by decide +kernel
theorem dX0_init_1 : decode cX0_init 1 = .ok (.invokespecial 3, 3) := by decide +kernel
theorem dX0_init_4 : decode cX0_init 4 = .ok (.aload_n 0, 1) := by decide +kernel
theorem dX0_init_5 : decode cX0_init 5 = .ok (.bipush 60, 2) := by decide +kernel
theorem dX0_init_7 : decode cX0_init 7 = .ok (.newarray .int, 2) := by decide +kernel
theorem dX0_init_9 : decode cX0_init 9 = .ok (.putfield 11, 3) := by decide +kernel
theorem dX0_init_12 : decode cX0_init 12 = .ok (.aload_n 0, 1) := by decide +kernel
theorem dX0_init_13 : decode cX0_init 13 = .ok (.bipush 60, 2) := by decide +kernel
theorem dX0_init_15 : decode cX0_init 15 = .ok (.newarray .int, 2) := by decide +kernel
theorem dX0_init_17 : decode cX0_init 17 = .ok (.putfield 15, 3) := by decide +kernel
theorem dX0_init_20 : decode cX0_init 20 = .ok (.aload_n 0, 1) := by decide +kernel
theorem dX0_init_21 : decode cX0_init 21 = .ok (.bipush 60, 2) := by decide +kernel
theorem dX0_init_23 : decode cX0_init 23 = .ok (.newarray .int, 2) := by decide +kernel
theorem dX0_init_25 : decode cX0_init 25 = .ok (.putfield 18, 3) := by decide +kernel
theorem dX0_init_28 : decode cX0_init 28 = .ok (.return_, 1) := by decide +kernel
theorem dX0_size_0 : decode cX0_size 0 = .ok (.aload_n 0, 1) := by decide +kernel
theorem dX0_size_1 : decode cX0_size 1 = .ok (.getfield 21, 3) := by decide +kernel
theorem dX0_size_4 : decode cX0_size 4 = .ok (.ireturn, 1) := by decide +kernel
theorem dX0_isFull_0 : decode cX0_isFull 0 = .ok (.aload_n 0, 1) := by decide +kernel
theorem dX0_isFull_1 : decode cX0_isFull 1 = .ok (.getfield 21, 3) := by decide +kernel
theorem dX0_isFull_4 : decode cX0_isFull 4 = .ok (.bipush 60, 2) := by decide +kernel
theorem dX0_isFull_6 : decode cX0_isFull 6 = .ok (.if_icmp .lt 7, 3) := by decide +kernel
theorem dX0_isFull_9 : decode cX0_isFull 9 = .ok (.iconst 1, 1) := by decide +kernel
theorem dX0_isFull_10 : decode cX0_isFull 10 = .ok (.goto 4, 3) := by decide +kernel
theorem dX0_isFull_13 : decode cX0_isFull 13 = .ok (.iconst 0, 1) := by decide +kernel
theorem dX0_isFull_14 : decode cX0_isFull 14 = .ok (.ireturn, 1) := by decide +kernel
theorem dX0_add_0 : decode cX0_add 0 = .ok (.aload_n 0, 1) := by decide +kernel
theorem dX0_add_1 : decode cX0_add 1 = .ok (.invokevirtual 25, 3) := by decide +kernel
theorem dX0_add_4 : decode cX0_add 4 = .ok (.ifCond .eq 4, 3) := by decide +kernel
theorem dX0_add_7 : decode cX0_add 7 = .ok (.return_, 1) := by decide +kernel
theorem dX0_add_8 : decode cX0_add 8 = .ok (.aload_n 0, 1) := by decide +kernel
theorem dX0_add_9 : decode cX0_add 9 = .ok (.getfield 11, 3) := by decide +kernel
theorem dX0_add_12 : decode cX0_add 12 = .ok (.aload_n 0, 1) := by decide +kernel
theorem dX0_add_13 : decode cX0_add 13 = .ok (.getfield 21, 3) := by decide +kernel
theorem dX0_add_16 : decode cX0_add 16 = .ok (.iload_n 1, 1) := by decide +kernel
theorem dX0_add_17 : decode cX0_add 17 = .ok (.iastore, 1) := by decide +kernel
theorem dX0_add_18 : decode cX0_add 18 = .ok (.aload_n 0, 1) := by decide +kernel
theorem dX0_add_19 : decode cX0_add 19 = .ok (.getfield 15, 3) := by decide +kernel
theorem dX0_add_22 : decode cX0_add 22 = .ok (.aload_n 0, 1) := by decide +kernel
theorem dX0_add_23 : decode cX0_add 23 = .ok (.getfield 21, 3) := by decide +kernel
theorem dX0_add_26 : decode cX0_add 26 = .ok (.iload_n 2, 1) := by decide +kernel
theorem dX0_add_27 : decode cX0_add 27 = .ok (.iastore, 1) := by decide +kernel
theorem dX0_add_28 : decode cX0_add 28 = .ok (.aload_n 0, 1) := by decide +kernel
theorem dX0_add_29 : decode cX0_add 29 = .ok (.getfield 18, 3) := by decide +kernel
theorem dX0_add_32 : decode cX0_add 32 = .ok (.aload_n 0, 1) := by decide +kernel
theorem dX0_add_33 : decode cX0_add 33 = .ok (.getfield 21, 3) := by decide +kernel
theorem dX0_add_36 : decode cX0_add 36 = .ok (.iload_n 3, 1) := by decide +kernel
theorem dX0_add_37 : decode cX0_add 37 = .ok (.iastore, 1) := by decide +kernel
theorem dX0_add_38 : decode cX0_add 38 = .ok (.aload_n 0, 1) := by decide +kernel
theorem dX0_add_39 : decode cX0_add 39 = .ok (.dup, 1) := by decide +kernel
theorem dX0_add_40 : decode cX0_add 40 = .ok (.getfield 21, 3) := by decide +kernel
theorem dX0_add_43 : decode cX0_add 43 = .ok (.iconst 1, 1) := by decide +kernel
theorem dX0_add_44 : decode cX0_add 44 = .ok (.iadd, 1) := by decide +kernel
theorem dX0_add_45 : decode cX0_add 45 = .ok (.putfield 21, 3) := by decide +kernel
theorem dX0_add_48 : decode cX0_add 48 = .ok (.return_, 1) := by decide +kernel
theorem dX0_arrives_0 : decode cX0_arrives 0 = .ok (.aload_n 0, 1) := by decide +kernel
theorem dX0_arrives_1 : decode cX0_arrives 1 = .ok (.iload_n 1, 1) := by decide +kernel
theorem dX0_arrives_2 : decode cX0_arrives 2 = .ok (.invokevirtual 29, 3) := by decide +kernel
theorem dX0_arrives_5 : decode cX0_arrives 5 = .ok (.ifCond .eq 17, 3) := by decide +kernel
theorem dX0_arrives_8 : decode cX0_arrives 8 = .ok (.aload_n 0, 1) := by decide +kernel
theorem dX0_arrives_9 : decode cX0_arrives 9 = .ok (.getfield 15, 3) := by decide +kernel
theorem dX0_arrives_12 : decode cX0_arrives 12 = .ok (.iload_n 1, 1) := by decide +kernel
theorem dX0_arrives_13 : decode cX0_arrives 13 = .ok (.iaload, 1) := by decide +kernel
theorem dX0_arrives_14 : decode cX0_arrives 14 = .ok (.iload_n 2, 1) := by decide +kernel
theorem dX0_arrives_15 : decode cX0_arrives 15 = .ok (.if_icmp .gt 7, 3) := by decide +kernel
theorem dX0_arrives_18 : decode cX0_arrives 18 = .ok (.iconst 1, 1) := by decide +kernel
theorem dX0_arrives_19 : decode cX0_arrives 19 = .ok (.goto 4, 3) := by decide +kernel
theorem dX0_arrives_22 : decode cX0_arrives 22 = .ok (.iconst 0, 1) := by decide +kernel
theorem dX0_arrives_23 : decode cX0_arrives 23 = .ok (.ireturn, 1) := by decide +kernel
theorem dX0_targetOf_0 : decode cX0_targetOf 0 = .ok (.aload_n 0, 1) := by decide +kernel
theorem dX0_targetOf_1 : decode cX0_targetOf 1 = .ok (.iload_n 1, 1) := by decide +kernel
theorem dX0_targetOf_2 : decode cX0_targetOf 2 = .ok (.invokevirtual 29, 3) := by decide +kernel
theorem dX0_targetOf_5 : decode cX0_targetOf 5 = .ok (.ifCond .eq 12, 3) := by decide +kernel
theorem dX0_targetOf_8 : decode cX0_targetOf 8 = .ok (.aload_n 0, 1) := by decide +kernel
theorem dX0_targetOf_9 : decode cX0_targetOf 9 = .ok (.getfield 11, 3) := by decide +kernel
theorem dX0_targetOf_12 : decode cX0_targetOf 12 = .ok (.iload_n 1, 1) := by decide +kernel
theorem dX0_targetOf_13 : decode cX0_targetOf 13 = .ok (.iaload, 1) := by decide +kernel
theorem dX0_targetOf_14 : decode cX0_targetOf 14 = .ok (.goto 4, 3) := by decide +kernel
theorem dX0_targetOf_17 : decode cX0_targetOf 17 = .ok (.iconst (-1), 1) := by decide +kernel
theorem dX0_targetOf_18 : decode cX0_targetOf 18 = .ok (.ireturn, 1) := by decide +kernel
theorem dX0_loadOf_0 : decode cX0_loadOf 0 = .ok (.aload_n 0, 1) := by decide +kernel
theorem dX0_loadOf_1 : decode cX0_loadOf 1 = .ok (.iload_n 1, 1) := by decide +kernel
theorem dX0_loadOf_2 : decode cX0_loadOf 2 = .ok (.invokevirtual 29, 3) := by decide +kernel
theorem dX0_loadOf_5 : decode cX0_loadOf 5 = .ok (.ifCond .eq 12, 3) := by decide +kernel
theorem dX0_loadOf_8 : decode cX0_loadOf 8 = .ok (.aload_n 0, 1) := by decide +kernel
theorem dX0_loadOf_9 : decode cX0_loadOf 9 = .ok (.getfield 18, 3) := by decide +kernel
theorem dX0_loadOf_12 : decode cX0_loadOf 12 = .ok (.iload_n 1, 1) := by decide +kernel
theorem dX0_loadOf_13 : decode cX0_loadOf 13 = .ok (.iaload, 1) := by decide +kernel
theorem dX0_loadOf_14 : decode cX0_loadOf 14 = .ok (.goto 4, 3) := by decide +kernel
theorem dX0_loadOf_17 : decode cX0_loadOf 17 = .ok (.iconst 0, 1) := by decide +kernel
theorem dX0_loadOf_18 : decode cX0_loadOf 18 = .ok (.ireturn, 1) := by decide +kernel
theorem dX0_removeArrived_0 : decode cX0_removeArrived 0 = .ok (.iconst 0, 1) := by decide +kernel
theorem dX0_removeArrived_1 : decode cX0_removeArrived 1 = .ok (.istore_n 2, 1) := by decide +kernel
theorem dX0_removeArrived_2 : decode cX0_removeArrived 2 = .ok (.iconst 0, 1) := by decide +kernel
theorem dX0_removeArrived_3 : decode cX0_removeArrived 3 = .ok (.istore_n 3, 1) := by decide +kernel
theorem dX0_removeArrived_4 : decode cX0_removeArrived 4 = .ok (.iload_n 3, 1) := by decide +kernel
theorem dX0_removeArrived_5 : decode cX0_removeArrived 5 = .ok (.aload_n 0, 1) := by decide +kernel
theorem dX0_removeArrived_6 : decode cX0_removeArrived 6 = .ok (.getfield 21, 3) := by decide +kernel
theorem dX0_removeArrived_9 : decode cX0_removeArrived 9 = .ok (.if_icmp .ge 58, 3) := by decide +kernel
theorem dX0_removeArrived_12 : decode cX0_removeArrived 12 = .ok (.aload_n 0, 1) := by decide +kernel
theorem dX0_removeArrived_13 : decode cX0_removeArrived 13 = .ok (.getfield 15, 3) := by decide +kernel
theorem dX0_removeArrived_16 : decode cX0_removeArrived 16 = .ok (.iload_n 3, 1) := by decide +kernel
theorem dX0_removeArrived_17 : decode cX0_removeArrived 17 = .ok (.iaload, 1) := by decide +kernel
theorem dX0_removeArrived_18 : decode cX0_removeArrived 18 = .ok (.iload_n 1, 1) := by decide +kernel
theorem dX0_removeArrived_19 : decode cX0_removeArrived 19 = .ok (.if_icmp .le 42, 3) := by decide +kernel
theorem dX0_removeArrived_22 : decode cX0_removeArrived 22 = .ok (.aload_n 0, 1) := by decide +kernel
theorem dX0_removeArrived_23 : decode cX0_removeArrived 23 = .ok (.getfield 11, 3) := by decide +kernel
theorem dX0_removeArrived_26 : decode cX0_removeArrived 26 = .ok (.iload_n 2, 1) := by decide +kernel
theorem dX0_removeArrived_27 : decode cX0_removeArrived 27 = .ok (.aload_n 0, 1) := by decide +kernel
theorem dX0_removeArrived_28 : decode cX0_removeArrived 28 = .ok (.getfield 11, 3) := by decide +kernel
theorem dX0_removeArrived_31 : decode cX0_removeArrived 31 = .ok (.iload_n 3, 1) := by decide +kernel
theorem dX0_removeArrived_32 : decode cX0_removeArrived 32 = .ok (.iaload, 1) := by decide +kernel
theorem dX0_removeArrived_33 : decode cX0_removeArrived 33 = .ok (.iastore, 1) := by decide +kernel
theorem dX0_removeArrived_34 : decode cX0_removeArrived 34 = .ok (.aload_n 0, 1) := by decide +kernel
theorem dX0_removeArrived_35 : decode cX0_removeArrived 35 = .ok (.getfield 15, 3) := by decide +kernel
theorem dX0_removeArrived_38 : decode cX0_removeArrived 38 = .ok (.iload_n 2, 1) := by decide +kernel
theorem dX0_removeArrived_39 : decode cX0_removeArrived 39 = .ok (.aload_n 0, 1) := by decide +kernel
theorem dX0_removeArrived_40 : decode cX0_removeArrived 40 = .ok (.getfield 15, 3) := by decide +kernel
theorem dX0_removeArrived_43 : decode cX0_removeArrived 43 = .ok (.iload_n 3, 1) := by decide +kernel
theorem dX0_removeArrived_44 : decode cX0_removeArrived 44 = .ok (.iaload, 1) := by decide +kernel
theorem dX0_removeArrived_45 : decode cX0_removeArrived 45 = .ok (.iastore, 1) := by decide +kernel
theorem dX0_removeArrived_46 : decode cX0_removeArrived 46 = .ok (.aload_n 0, 1) := by decide +kernel
theorem dX0_removeArrived_47 : decode cX0_removeArrived 47 = .ok (.getfield 18, 3) := by decide +kernel
theorem dX0_removeArrived_50 : decode cX0_removeArrived 50 = .ok (.iload_n 2, 1) := by decide +kernel
theorem dX0_removeArrived_51 : decode cX0_removeArrived 51 = .ok (.aload_n 0, 1) := by decide +kernel
theorem dX0_removeArrived_52 : decode cX0_removeArrived 52 = .ok (.getfield 18, 3) := by decide +kernel
theorem dX0_removeArrived_55 : decode cX0_removeArrived 55 = .ok (.iload_n 3, 1) := by decide +kernel
theorem dX0_removeArrived_56 : decode cX0_removeArrived 56 = .ok (.iaload, 1) := by decide +kernel
theorem dX0_removeArrived_57 : decode cX0_removeArrived 57 = .ok (.iastore, 1) := by decide +kernel
theorem dX0_removeArrived_58 : decode cX0_removeArrived 58 = .ok (.iinc 2 1, 3) := by decide +kernel
theorem dX0_removeArrived_61 : decode cX0_removeArrived 61 = .ok (.iinc 3 1, 3) := by decide +kernel
theorem dX0_removeArrived_64 : decode cX0_removeArrived 64 = .ok (.goto (-60), 3) := by decide +kernel
theorem dX0_removeArrived_67 : decode cX0_removeArrived 67 = .ok (.aload_n 0, 1) := by decide +kernel
theorem dX0_removeArrived_68 : decode cX0_removeArrived 68 = .ok (.iload_n 2, 1) := by decide +kernel
theorem dX0_removeArrived_69 : decode cX0_removeArrived 69 = .ok (.putfield 21, 3) := by decide +kernel
theorem dX0_removeArrived_72 : decode cX0_removeArrived 72 = .ok (.return_, 1) := by decide +kernel
theorem dX0_loadInAll_0 : decode cX0_loadInAll 0 = .ok (.lconst 0, 1) := by decide +kernel
theorem dX0_loadInAll_1 : decode cX0_loadInAll 1 = .ok (.lstore_n 1, 1) := by decide +kernel
theorem dX0_loadInAll_2 : decode cX0_loadInAll 2 = .ok (.iconst 0, 1) := by decide +kernel
theorem dX0_loadInAll_3 : decode cX0_loadInAll 3 = .ok (.istore_n 3, 1) := by decide +kernel
theorem dX0_loadInAll_4 : decode cX0_loadInAll 4 = .ok (.iload_n 3, 1) := by decide +kernel
theorem dX0_loadInAll_5 : decode cX0_loadInAll 5 = .ok (.aload_n 0, 1) := by decide +kernel
theorem dX0_loadInAll_6 : decode cX0_loadInAll 6 = .ok (.getfield 21, 3) := by decide +kernel
theorem dX0_loadInAll_9 : decode cX0_loadInAll 9 = .ok (.if_icmp .ge 19, 3) := by decide +kernel
theorem dX0_loadInAll_12 : decode cX0_loadInAll 12 = .ok (.lload_n 1, 1) := by decide +kernel
theorem dX0_loadInAll_13 : decode cX0_loadInAll 13 = .ok (.aload_n 0, 1) := by decide +kernel
theorem dX0_loadInAll_14 : decode cX0_loadInAll 14 = .ok (.getfield 18, 3) := by decide +kernel
theorem dX0_loadInAll_17 : decode cX0_loadInAll 17 = .ok (.iload_n 3, 1) := by decide +kernel
theorem dX0_loadInAll_18 : decode cX0_loadInAll 18 = .ok (.iaload, 1) := by decide +kernel
theorem dX0_loadInAll_19 : decode cX0_loadInAll 19 = .ok (.i2l, 1) := by decide +kernel
theorem dX0_loadInAll_20 : decode cX0_loadInAll 20 = .ok (.ladd, 1) := by decide +kernel
theorem dX0_loadInAll_21 : decode cX0_loadInAll 21 = .ok (.lstore_n 1, 1) := by decide +kernel
theorem dX0_loadInAll_22 : decode cX0_loadInAll 22 = .ok (.iinc 3 1, 3) := by decide +kernel
theorem dX0_loadInAll_25 : decode cX0_loadInAll 25 = .ok (.goto (-21), 3) := by decide +kernel
theorem dX0_loadInAll_28 : decode cX0_loadInAll 28 = .ok (.lload_n 1, 1) := by decide +kernel
theorem dX0_loadInAll_29 : decode cX0_loadInAll 29 = .ok (.lreturn, 1) := by decide +kernel
theorem dX0_imitate_0 : decode cX0_imitate 0 = .ok (.aload_n 0, 1) := by decide +kernel
theorem dX0_imitate_1 : decode cX0_imitate 1 = .ok (.aload_n 1, 1) := by decide +kernel
theorem dX0_imitate_2 : decode cX0_imitate 2 = .ok (.getfield 21, 3) := by decide +kernel
theorem dX0_imitate_5 : decode cX0_imitate 5 = .ok (.putfield 21, 3) := by decide +kernel
theorem dX0_imitate_8 : decode cX0_imitate 8 = .ok (.aload_n 1, 1) := by decide +kernel
theorem dX0_imitate_9 : decode cX0_imitate 9 = .ok (.getfield 11, 3) := by decide +kernel
theorem dX0_imitate_12 : decode cX0_imitate 12 = .ok (.iconst 0, 1) := by decide +kernel
theorem dX0_imitate_13 : decode cX0_imitate 13 = .ok (.aload_n 0, 1) := by decide +kernel
theorem dX0_imitate_14 : decode cX0_imitate 14 = .ok (.getfield 11, 3) := by decide +kernel
theorem dX0_imitate_17 : decode cX0_imitate 17 = .ok (.iconst 0, 1) := by decide +kernel
theorem dX0_imitate_18 : decode cX0_imitate 18 = .ok (.aload_n 0, 1) := by decide +kernel
theorem dX0_imitate_19 : decode cX0_imitate 19 = .ok (.getfield 21, 3) := by decide +kernel
theorem dX0_imitate_22 : decode cX0_imitate 22 = .ok (.invokestatic 33, 3) := by decide +kernel
theorem dX0_imitate_25 : decode cX0_imitate 25 = .ok (.aload_n 1, 1) := by decide +kernel
theorem dX0_imitate_26 : decode cX0_imitate 26 = .ok (.getfield 15, 3) := by decide +kernel
theorem dX0_imitate_29 : decode cX0_imitate 29 = .ok (.iconst 0, 1) := by decide +kernel
theorem dX0_imitate_30 : decode cX0_imitate 30 = .ok (.aload_n 0, 1) := by decide +kernel
theorem dX0_imitate_31 : decode cX0_imitate 31 = .ok (.getfield 15, 3) := by decide +kernel
theorem dX0_imitate_34 : decode cX0_imitate 34 = .ok (.iconst 0, 1) := by decide +kernel
theorem dX0_imitate_35 : decode cX0_imitate 35 = .ok (.aload_n 0, 1) := by decide +kernel
theorem dX0_imitate_36 : decode cX0_imitate 36 = .ok (.getfield 21, 3) := by decide +kernel
theorem dX0_imitate_39 : decode cX0_imitate 39 = .ok (.invokestatic 33, 3) := by decide +kernel
theorem dX0_imitate_42 : decode cX0_imitate 42 = .ok (.aload_n 1, 1) := by decide +kernel
theorem dX0_imitate_43 : decode cX0_imitate 43 = .ok (.getfield 18, 3) := by decide +kernel
theorem dX0_imitate_46 : decode cX0_imitate 46 = .ok (.iconst 0, 1) := by decide +kernel
theorem dX0_imitate_47 : decode cX0_imitate 47 = .ok (.aload_n 0, 1) := by decide +kernel
theorem dX0_imitate_48 : decode cX0_imitate 48 = .ok (.getfield 18, 3) := by decide +kernel
theorem dX0_imitate_51 : decode cX0_imitate 51 = .ok (.iconst 0, 1) := by decide +kernel
theorem dX0_imitate_52 : decode cX0_imitate 52 = .ok (.aload_n 0, 1) := by decide +kernel
theorem dX0_imitate_53 : decode cX0_imitate 53 = .ok (.getfield 21, 3) := by decide +kernel
theorem dX0_imitate_56 : decode cX0_imitate 56 = .ok (.invokestatic 33, 3) := by decide +kernel
theorem dX0_imitate_59 : decode cX0_imitate 59 = .ok (.return_, 1) := by decide +kernel
theorem dX0_isThere_0 : decode cX0_isThere 0 = .ok (.iload_n 1, 1) := by decide +kernel
theorem dX0_isThere_1 : decode cX0_isThere 1 = .ok (.ifCond .lt 15, 3) := by decide +kernel
theorem dX0_isThere_4 : decode cX0_isThere 4 = .ok (.iload_n 1, 1) := by decide +kernel
theorem dX0_isThere_5 : decode cX0_isThere 5 = .ok (.aload_n 0, 1) := by decide +kernel
theorem dX0_isThere_6 : decode cX0_isThere 6 = .ok (.getfield 21, 3) := by decide +kernel
theorem dX0_isThere_9 : decode cX0_isThere 9 = .ok (.if_icmp .ge 7, 3) := by decide +kernel
theorem dX0_isThere_12 : decode cX0_isThere 12 = .ok (.iconst 1, 1) := by decide +kernel
theorem dX0_isThere_13 : decode cX0_isThere 13 = .ok (.goto 4, 3) := by decide +kernel
theorem dX0_isThere_16 : decode cX0_isThere 16 = .ok (.iconst 0, 1) := by decide +kernel
theorem dX0_isThere_17 : decode cX0_isThere 17 = .ok (.ireturn, 1) := by decide +kernel
theorem dX1_init_0 : decode cX1_init 0 = .ok (.aload_n 0, 1) := by decide +kernel
theorem dX1_init_1 : decode cX1_init 1 = .ok (.invokespecial 3, 3) := by decide +kernel
theorem dX1_init_4 : decode cX1_init 4 = .ok (.aload_n 0, 1) := by decide +kernel
theorem dX1_init_5 : decode cX1_init 5 = .ok (.getstatic 9, 3) := by decide +kernel
theorem dX1_init_8 : decode cX1_init 8 = .ok (.invokevirtual 15, 3) := by decide +kernel
theorem dX1_init_11 : decode cX1_init 11 = .ok (.checkcast 16, 3) := by decide +kernel
theorem dX1_init_14 : decode cX1_init 14 = .ok (.putfield 20, 3) := by decide +kernel
theorem dX1_init_17 : decode cX1_init 17 = .ok (.aload_n 0, 1) := by decide +kernel
theorem dX1_init_18 : decode cX1_init 18 = .ok (.getstatic 9, 3) := by decide +kernel
theorem dX1_init_21 : decode cX1_init 21 = .ok (.invokevirtual 15, 3) := by decide +kernel
theorem dX1_init_24 : decode cX1_init 24 = .ok (.checkcast 16, 3) := by decide +kernel
theorem dX1_init_27 : decode cX1_init 27 = .ok (.putfield 23, 3) := by decide +kernel
theorem dX1_init_30 : decode cX1_init 30 = .ok (.return_, 1) := by decide +kernel
theorem dX1_letterIndex_0 : decode cX1_letterIndex 0 = .ok (.iload_n 0, 1) := by decide +kernel
theorem dX1_letterIndex_1 : decode cX1_letterIndex 1 = .ok (.ifCond .lt 10, 3) := by decide +kernel
theorem dX1_letterIndex_4 : decode cX1_letterIndex 4 = .ok (.iload_n 0, 1) := by decide +kernel
theorem dX1_letterIndex_5 : decode cX1_letterIndex 5 = .ok (.sipush 255, 3) := by decide +kernel
theorem dX1_letterIndex_8 : decode cX1_letterIndex 8 = .ok (.if_icmp .le 7, 3) := by decide +kernel
theorem dX1_letterIndex_11 : decode cX1_letterIndex 11 = .ok (.iconst (-1), 1) := by decide +kernel
theorem dX1_letterIndex_12 : decode cX1_letterIndex 12 = .ok (.goto 10, 3) := by decide +kernel
theorem dX1_letterIndex_15 : decode cX1_letterIndex 15 = .ok (.ldc 26, 2) := by decide +kernel
theorem dX1_letterIndex_17 : decode cX1_letterIndex 17 = .ok (.iload_n 0, 1) := by decide +kernel
theorem dX1_letterIndex_18 : decode cX1_letterIndex 18 = .ok (.i2c, 1) := by decide +kernel
theorem dX1_letterIndex_19 : decode cX1_letterIndex 19 = .ok (.invokevirtual 28, 3) := by decide +kernel
theorem dX1_letterIndex_22 : decode cX1_letterIndex 22 = .ok (.ireturn, 1) := by decide +kernel
theorem dX1_number_0 : decode cX1_number 0 = .ok (.iload_n 1, 1) := by decide +kernel
theorem dX1_number_1 : decode cX1_number 1 = .ok (.ifCond .lt 12, 3) := by decide +kernel
theorem dX1_number_4 : decode cX1_number 4 = .ok (.iload_n 1, 1) := by decide +kernel
theorem dX1_number_5 : decode cX1_number 5 = .ok (.aload_n 0, 1) := by decide +kernel
theorem dX1_number_6 : decode cX1_number 6 = .ok (.getfield 20, 3) := by decide +kernel
theorem dX1_number_9 : decode cX1_number 9 = .ok (.arraylength, 1) := by decide +kernel
theorem dX1_number_10 : decode cX1_number 10 = .ok (.if_icmp .lt 7, 3) := by decide +kernel
theorem dX1_number_13 : decode cX1_number 13 = .ok (.iconst 0, 1) := by decide +kernel
theorem dX1_number_14 : decode cX1_number 14 = .ok (.goto 9, 3) := by decide +kernel
theorem dX1_number_17 : decode cX1_number 17 = .ok (.aload_n 0, 1) := by decide +kernel
theorem dX1_number_18 : decode cX1_number 18 = .ok (.getfield 20, 3) := by decide +kernel
theorem dX1_number_21 : decode cX1_number 21 = .ok (.iload_n 1, 1) := by decide +kernel
theorem dX1_number_22 : decode cX1_number 22 = .ok (.iaload, 1) := by decide +kernel
theorem dX1_number_23 : decode cX1_number 23 = .ok (.ireturn, 1) := by decide +kernel
theorem dX1_proclaim_0 : decode cX1_proclaim 0 = .ok (.getstatic 9, 3) := by decide +kernel
theorem dX1_proclaim_3 : decode cX1_proclaim 3 = .ok (.iconst 0, 1) := by decide +kernel
theorem dX1_proclaim_4 : decode cX1_proclaim 4 = .ok (.aload_n 0, 1) := by decide +kernel
theorem dX1_proclaim_5 : decode cX1_proclaim 5 = .ok (.getfield 23, 3) := by decide +kernel
theorem dX1_proclaim_8 : decode cX1_proclaim 8 = .ok (.iconst 0, 1) := by decide +kernel
theorem dX1_proclaim_9 : decode cX1_proclaim 9 = .ok (.aload_n 0, 1) := by decide +kernel
theorem dX1_proclaim_10 : decode cX1_proclaim 10 = .ok (.getfield 23, 3) := by decide +kernel
theorem dX1_proclaim_13 : decode cX1_proclaim 13 = .ok (.arraylength, 1) := by decide +kernel
theorem dX1_proclaim_14 : decode cX1_proclaim 14 = .ok (.invokestatic 34, 3) := by decide +kernel
theorem dX1_proclaim_17 : decode cX1_proclaim 17 = .ok (.iconst 0, 1) := by decide +kernel
theorem dX1_proclaim_18 : decode cX1_proclaim 18 = .ok (.istore_n 3, 1) := by decide +kernel
theorem dX1_proclaim_19 : decode cX1_proclaim 19 = .ok (.iconst 0, 1) := by decide +kernel
theorem dX1_proclaim_20 : decode cX1_proclaim 20 = .ok (.istore 4, 2) := by decide +kernel
theorem dX1_proclaim_22 : decode cX1_proclaim 22 = .ok (.iload 4, 2) := by decide +kernel
theorem dX1_proclaim_24 : decode cX1_proclaim 24 = .ok (.iload_n 2, 1) := by decide +kernel
theorem dX1_proclaim_25 : decode cX1_proclaim 25 = .ok (.if_icmp .gt 175, 3) := by decide +kernel
theorem dX1_proclaim_28 : decode cX1_proclaim 28 = .ok (.iload_n 3, 1) := by decide +kernel
theorem dX1_proclaim_29 : decode cX1_proclaim 29 = .ok (.iload_n 2, 1) := by decide +kernel
theorem dX1_proclaim_30 : decode cX1_proclaim 30 = .ok (.if_icmp .ge 14, 3) := by decide +kernel
theorem dX1_proclaim_33 : decode cX1_proclaim 33 = .ok (.aload_n 1, 1) := by decide +kernel
theorem dX1_proclaim_34 : decode cX1_proclaim 34 = .ok (.iload_n 3, 1) := by decide +kernel
theorem dX1_proclaim_35 : decode cX1_proclaim 35 = .ok (.invokevirtual 40, 3) := by decide +kernel
theorem dX1_proclaim_38 : decode cX1_proclaim 38 = .ok (.invokestatic 45, 3) := by decide +kernel
theorem dX1_proclaim_41 : decode cX1_proclaim 41 = .ok (.goto 4, 3) := by decide +kernel
theorem dX1_proclaim_44 : decode cX1_proclaim 44 = .ok (.iconst (-1), 1) := by decide +kernel
theorem dX1_proclaim_45 : decode cX1_proclaim 45 = .ok (.istore 5, 2) := by decide +kernel
theorem dX1_proclaim_47 : decode cX1_proclaim 47 = .ok (.iload 5, 2) := by decide +kernel
theorem dX1_proclaim_49 : decode cX1_proclaim 49 = .ok (.ifCond .lt 13, 3) := by decide +kernel
theorem dX1_proclaim_52 : decode cX1_proclaim 52 = .ok (.iload 5, 2) := by decide +kernel
theorem dX1_proclaim_54 : decode cX1_proclaim 54 = .ok (.aload_n 0, 1) := by decide +kernel
theorem dX1_proclaim_55 : decode cX1_proclaim 55 = .ok (.getfield 23, 3) := by decide +kernel
theorem dX1_proclaim_58 : decode cX1_proclaim 58 = .ok (.arraylength, 1) := by decide +kernel
theorem dX1_proclaim_59 : decode cX1_proclaim 59 = .ok (.if_icmp .lt 9, 3) := by decide +kernel
theorem dX1_proclaim_62 : decode cX1_proclaim 62 = .ok (.iconst 1, 1) := by decide +kernel
theorem dX1_proclaim_63 : decode cX1_proclaim 63 = .ok (.iload_n 3, 1) := by decide +kernel
theorem dX1_proclaim_64 : decode cX1_proclaim 64 = .ok (.invokestatic 48, 3) := by decide +kernel
theorem dX1_proclaim_67 : decode cX1_proclaim 67 = .ok (.ireturn, 1) := by decide +kernel
theorem dX1_proclaim_68 : decode cX1_proclaim 68 = .ok (.iload_n 3, 1) := by decide +kernel
theorem dX1_proclaim_69 : decode cX1_proclaim 69 = .ok (.iconst 1, 1) := by decide +kernel
theorem dX1_proclaim_70 : decode cX1_proclaim 70 = .ok (.iadd, 1) := by decide +kernel
theorem dX1_proclaim_71 : decode cX1_proclaim 71 = .ok (.istore 6, 2) := by decide +kernel
theorem dX1_proclaim_73 : decode cX1_proclaim 73 = .ok (.aload_n 1, 1) := by decide +kernel
theorem dX1_proclaim_74 : decode cX1_proclaim 74 = .ok (.iload_n 2, 1) := by decide +kernel
theorem dX1_proclaim_75 : decode cX1_proclaim 75 = .ok (.iload 6, 2) := by decide +kernel
theorem dX1_proclaim_77 : decode cX1_proclaim 77 = .ok (.invokestatic 52, 3) := by decide +kernel
theorem dX1_proclaim_80 : decode cX1_proclaim 80 = .ok (.istore 7, 2) := by decide +kernel
theorem dX1_proclaim_82 : decode cX1_proclaim 82 = .ok (.iload 7, 2) := by decide +kernel
theorem dX1_proclaim_84 : decode cX1_proclaim 84 = .ok (.iload 6, 2) := by decide +kernel
theorem dX1_proclaim_86 : decode cX1_proclaim 86 = .ok (.if_icmp .ne 10, 3) := by decide +kernel
theorem dX1_proclaim_89 : decode cX1_proclaim 89 = .ok (.iconst 2, 1) := by decide +kernel
theorem dX1_proclaim_90 : decode cX1_proclaim 90 = .ok (.iload 6, 2) := by decide +kernel
theorem dX1_proclaim_92 : decode cX1_proclaim 92 = .ok (.invokestatic 48, 3) := by decide +kernel
theorem dX1_proclaim_95 : decode cX1_proclaim 95 = .ok (.ireturn, 1) := by decide +kernel
theorem dX1_proclaim_96 : decode cX1_proclaim 96 = .ok (.iload 7, 2) := by decide +kernel
theorem dX1_proclaim_98 : decode cX1_proclaim 98 = .ok (.iload 6, 2) := by decide +kernel
theorem dX1_proclaim_100 : decode cX1_proclaim 100 = .ok (.isub, 1) := by decide +kernel
theorem dX1_proclaim_101 : decode cX1_proclaim 101 = .ok (.iconst 4, 1) := by decide +kernel
theorem dX1_proclaim_102 : decode cX1_proclaim 102 = .ok (.if_icmp .le 12, 3) := by decide +kernel
theorem dX1_proclaim_105 : decode cX1_proclaim 105 = .ok (.iconst 3, 1) := by decide +kernel
theorem dX1_proclaim_106 : decode cX1_proclaim 106 = .ok (.iload 6, 2) := by decide +kernel
theorem dX1_proclaim_108 : decode cX1_proclaim 108 = .ok (.iconst 4, 1) := by decide +kernel
theorem dX1_proclaim_109 : decode cX1_proclaim 109 = .ok (.iadd, 1) := by decide +kernel
theorem dX1_proclaim_110 : decode cX1_proclaim 110 = .ok (.invokestatic 48, 3) := by decide +kernel
theorem dX1_proclaim_113 : decode cX1_proclaim 113 = .ok (.ireturn, 1) := by decide +kernel
theorem dX1_proclaim_114 : decode cX1_proclaim 114 = .ok (.aload_n 1, 1) := by decide +kernel
theorem dX1_proclaim_115 : decode cX1_proclaim 115 = .ok (.iload 6, 2) := by decide +kernel
theorem dX1_proclaim_117 : decode cX1_proclaim 117 = .ok (.iload 7, 2) := by decide +kernel
theorem dX1_proclaim_119 : decode cX1_proclaim 119 = .ok (.invokestatic 56, 3) := by decide +kernel
theorem dX1_proclaim_122 : decode cX1_proclaim 122 = .ok (.istore 8, 2) := by decide +kernel
theorem dX1_proclaim_124 : decode cX1_proclaim 124 = .ok (.iload 8, 2) := by decide +kernel
theorem dX1_proclaim_126 : decode cX1_proclaim 126 = .ok (.getstatic 59, 3) := by decide +kernel
theorem dX1_proclaim_129 : decode cX1_proclaim 129 = .ok (.iload 5, 2) := by decide +kernel
theorem dX1_proclaim_131 : decode cX1_proclaim 131 = .ok (.iaload, 1) := by decide +kernel
theorem dX1_proclaim_132 : decode cX1_proclaim 132 = .ok (.if_icmp .lt 14, 3) := by decide +kernel
theorem dX1_proclaim_135 : decode cX1_proclaim 135 = .ok (.iload 8, 2) := by decide +kernel
theorem dX1_proclaim_137 : decode cX1_proclaim 137 = .ok (.getstatic 62, 3) := by decide +kernel
theorem dX1_proclaim_140 : decode cX1_proclaim 140 = .ok (.iload 5, 2) := by decide +kernel
theorem dX1_proclaim_142 : decode cX1_proclaim 142 = .ok (.iaload, 1) := by decide +kernel
theorem dX1_proclaim_143 : decode cX1_proclaim 143 = .ok (.if_icmp .le 10, 3) := by decide +kernel
theorem dX1_proclaim_146 : decode cX1_proclaim 146 = .ok (.iconst 4, 1) := by decide +kernel
theorem dX1_proclaim_147 : decode cX1_proclaim 147 = .ok (.iload 6, 2) := by decide +kernel
theorem dX1_proclaim_149 : decode cX1_proclaim 149 = .ok (.invokestatic 48, 3) := by decide +kernel
theorem dX1_proclaim_152 : decode cX1_proclaim 152 = .ok (.ireturn, 1) := by decide +kernel
theorem dX1_proclaim_153 : decode cX1_proclaim 153 = .ok (.aload_n 0, 1) := by decide +kernel
theorem dX1_proclaim_154 : decode cX1_proclaim 154 = .ok (.getfield 23, 3) := by decide +kernel
theorem dX1_proclaim_157 : decode cX1_proclaim 157 = .ok (.iload 5, 2) := by decide +kernel
theorem dX1_proclaim_159 : decode cX1_proclaim 159 = .ok (.iload 8, 2) := by decide +kernel
theorem dX1_proclaim_161 : decode cX1_proclaim 161 = .ok (.iastore, 1) := by decide +kernel
theorem dX1_proclaim_162 : decode cX1_proclaim 162 = .ok (.iload 7, 2) := by decide +kernel
theorem dX1_proclaim_164 : decode cX1_proclaim 164 = .ok (.iload_n 2, 1) := by decide +kernel
theorem dX1_proclaim_165 : decode cX1_proclaim 165 = .ok (.if_icmp .lt 6, 3) := by decide +kernel
theorem dX1_proclaim_168 : decode cX1_proclaim 168 = .ok (.goto 32, 3) := by decide +kernel
theorem dX1_proclaim_171 : decode cX1_proclaim 171 = .ok (.aload_n 1, 1) := by decide +kernel
theorem dX1_proclaim_172 : decode cX1_proclaim 172 = .ok (.iload 7, 2) := by decide +kernel
theorem dX1_proclaim_174 : decode cX1_proclaim 174 = .ok (.invokevirtual 40, 3) := by decide +kernel
theorem dX1_proclaim_177 : decode cX1_proclaim 177 = .ok (.bipush 59, 2) := by decide +kernel
theorem dX1_proclaim_179 : decode cX1_proclaim 179 = .ok (.if_icmp .eq 10, 3) := by decide +kernel
theorem dX1_proclaim_182 : decode cX1_proclaim 182 = .ok (.iconst 5, 1) := by decide +kernel
theorem dX1_proclaim_183 : decode cX1_proclaim 183 = .ok (.iload 7, 2) := by decide +kernel
theorem dX1_proclaim_185 : decode cX1_proclaim 185 = .ok (.invokestatic 48, 3) := by decide +kernel
theorem dX1_proclaim_188 : decode cX1_proclaim 188 = .ok (.ireturn, 1) := by decide +kernel
theorem dX1_proclaim_189 : decode cX1_proclaim 189 = .ok (.iload 7, 2) := by decide +kernel
theorem dX1_proclaim_191 : decode cX1_proclaim 191 = .ok (.iconst 1, 1) := by decide +kernel
theorem dX1_proclaim_192 : decode cX1_proclaim 192 = .ok (.iadd, 1) := by decide +kernel
theorem dX1_proclaim_193 : decode cX1_proclaim 193 = .ok (.istore_n 3, 1) := by decide +kernel
theorem dX1_proclaim_194 : decode cX1_proclaim 194 = .ok (.iinc 4 1, 3) := by decide +kernel
theorem dX1_proclaim_197 : decode cX1_proclaim 197 = .ok (.goto (-175), 3) := by decide +kernel
theorem dX1_proclaim_200 : decode cX1_proclaim 200 = .ok (.aload_n 0, 1) := by decide +kernel
theorem dX1_proclaim_201 : decode cX1_proclaim 201 = .ok (.getfield 23, 3) := by decide +kernel
theorem dX1_proclaim_204 : decode cX1_proclaim 204 = .ok (.iconst 0, 1) := by decide +kernel
theorem dX1_proclaim_205 : decode cX1_proclaim 205 = .ok (.aload_n 0, 1) := by decide +kernel
theorem dX1_proclaim_206 : decode cX1_proclaim 206 = .ok (.getfield 20, 3) := by decide +kernel
theorem dX1_proclaim_209 : decode cX1_proclaim 209 = .ok (.iconst 0, 1) := by decide +kernel
theorem dX1_proclaim_210 : decode cX1_proclaim 210 = .ok (.aload_n 0, 1) := by decide +kernel
theorem dX1_proclaim_211 : decode cX1_proclaim 211 = .ok (.getfield 20, 3) := by decide +kernel
theorem dX1_proclaim_214 : decode cX1_proclaim 214 = .ok (.arraylength, 1) := by decide +kernel
theorem dX1_proclaim_215 : decode cX1_proclaim 215 = .ok (.invokestatic 34, 3) := by decide +kernel
theorem dX1_proclaim_218 : decode cX1_proclaim 218 = .ok (.iconst 0, 1) := by decide +kernel
theorem dX1_proclaim_219 : decode cX1_proclaim 219 = .ok (.ireturn, 1) := by decide +kernel
theorem dX1_digitsEnd_0 : decode cX1_digitsEnd 0 = .ok (.iload_n 2, 1) := by decide +kernel
theorem dX1_digitsEnd_1 : decode cX1_digitsEnd 1 = .ok (.istore_n 3, 1) := by decide +kernel
theorem dX1_digitsEnd_2 : decode cX1_digitsEnd 2 = .ok (.iload_n 3, 1) := by decide +kernel
theorem dX1_digitsEnd_3 : decode cX1_digitsEnd 3 = .ok (.iload_n 1, 1) := by decide +kernel
theorem dX1_digitsEnd_4 : decode cX1_digitsEnd 4 = .ok (.if_icmp .ge 29, 3) := by decide +kernel
theorem dX1_digitsEnd_7 : decode cX1_digitsEnd 7 = .ok (.aload_n 0, 1) := by decide +kernel
theorem dX1_digitsEnd_8 : decode cX1_digitsEnd 8 = .ok (.iload_n 3, 1) := by decide +kernel
theorem dX1_digitsEnd_9 : decode cX1_digitsEnd 9 = .ok (.invokevirtual 40, 3) := by decide +kernel
theorem dX1_digitsEnd_12 : decode cX1_digitsEnd 12 = .ok (.bipush 48, 2) := by decide +kernel
theorem dX1_digitsEnd_14 : decode cX1_digitsEnd 14 = .ok (.if_icmp .lt 19, 3) := by decide +kernel
theorem dX1_digitsEnd_17 : decode cX1_digitsEnd 17 = .ok (.aload_n 0, 1) := by decide +kernel
theorem dX1_digitsEnd_18 : decode cX1_digitsEnd 18 = .ok (.iload_n 3, 1) := by decide +kernel
theorem dX1_digitsEnd_19 : decode cX1_digitsEnd 19 = .ok (.invokevirtual 40, 3) := by decide +kernel
theorem dX1_digitsEnd_22 : decode cX1_digitsEnd 22 = .ok (.bipush 57, 2) := by decide +kernel
theorem dX1_digitsEnd_24 : decode cX1_digitsEnd 24 = .ok (.if_icmp .gt 9, 3) := by decide +kernel
theorem dX1_digitsEnd_27 : decode cX1_digitsEnd 27 = .ok (.iinc 3 1, 3) := by decide +kernel
theorem dX1_digitsEnd_30 : decode cX1_digitsEnd 30 = .ok (.goto (-28), 3) := by decide +kernel
theorem dX1_digitsEnd_33 : decode cX1_digitsEnd 33 = .ok (.iload_n 3, 1) := by decide +kernel
theorem dX1_digitsEnd_34 : decode cX1_digitsEnd 34 = .ok (.ireturn, 1) := by decide +kernel
theorem dX1_numberAt_0 : decode cX1_numberAt 0 = .ok (.iconst 0, 1) := by decide +kernel
theorem dX1_numberAt_1 : decode cX1_numberAt 1 = .ok (.istore_n 3, 1) := by decide +kernel
theorem dX1_numberAt_2 : decode cX1_numberAt 2 = .ok (.iload_n 1, 1) := by decide +kernel
theorem dX1_numberAt_3 : decode cX1_numberAt 3 = .ok (.istore 4, 2) := by decide +kernel
theorem dX1_numberAt_5 : decode cX1_numberAt 5 = .ok (.iload 4, 2) := by decide +kernel
theorem dX1_numberAt_7 : decode cX1_numberAt 7 = .ok (.iload_n 2, 1) := by decide +kernel
theorem dX1_numberAt_8 : decode cX1_numberAt 8 = .ok (.if_icmp .ge 24, 3) := by decide +kernel
theorem dX1_numberAt_11 : decode cX1_numberAt 11 = .ok (.bipush 10, 2) := by decide +kernel
theorem dX1_numberAt_13 : decode cX1_numberAt 13 = .ok (.iload_n 3, 1) := by decide +kernel
theorem dX1_numberAt_14 : decode cX1_numberAt 14 = .ok (.imul, 1) := by decide +kernel
theorem dX1_numberAt_15 : decode cX1_numberAt 15 = .ok (.aload_n 0, 1) := by decide +kernel
theorem dX1_numberAt_16 : decode cX1_numberAt 16 = .ok (.iload 4, 2) := by decide +kernel
theorem dX1_numberAt_18 : decode cX1_numberAt 18 = .ok (.invokevirtual 40, 3) := by decide +kernel
theorem dX1_numberAt_21 : decode cX1_numberAt 21 = .ok (.iadd, 1) := by decide +kernel
theorem dX1_numberAt_22 : decode cX1_numberAt 22 = .ok (.bipush 48, 2) := by decide +kernel
theorem dX1_numberAt_24 : decode cX1_numberAt 24 = .ok (.isub, 1) := by decide +kernel
theorem dX1_numberAt_25 : decode cX1_numberAt 25 = .ok (.istore_n 3, 1) := by decide +kernel
theorem dX1_numberAt_26 : decode cX1_numberAt 26 = .ok (.iinc 4 1, 3) := by decide +kernel
theorem dX1_numberAt_29 : decode cX1_numberAt 29 = .ok (.goto (-24), 3) := by decide +kernel
theorem dX1_numberAt_32 : decode cX1_numberAt 32 = .ok (.iload_n 3, 1) := by decide +kernel
theorem dX1_numberAt_33 : decode cX1_numberAt 33 = .ok (.ireturn, 1) := by decide +kernel
theorem dX1_fault_0 : decode cX1_fault 0 = .ok (.bipush 100, 2) := by decide +kernel
theorem dX1_fault_2 : decode cX1_fault 2 = .ok (.iload_n 0, 1) := by decide +kernel
theorem dX1_fault_3 : decode cX1_fault 3 = .ok (.imul, 1) := by decide +kernel
theorem dX1_fault_4 : decode cX1_fault 4 = .ok (.iload_n 1, 1) := by decide +kernel
theorem dX1_fault_5 : decode cX1_fault 5 = .ok (.iadd, 1) := by decide +kernel
theorem dX1_fault_6 : decode cX1_fault 6 = .ok (.ireturn, 1) := by decide +kernel
theorem dX2_init_0 : decode cX2_init 0 = .ok (.aload_n 0, 1) := by decide +kernel
theorem dX2_init_1 : decode cX2_init 1 = .ok (.invokespecial 1, 3) := by decide +kernel
theorem dX2_init_4 : decode cX2_init 4 = .ok (.aload_n 0, 1) := by decide +kernel
theorem dX2_init_5 : decode cX2_init 5 = .ok (.new 7, 3) := by decide +kernel
theorem dX2_init_8 : decode cX2_init 8 = .ok (.dup, 1) := by decide +kernel
theorem dX2_init_9 : decode cX2_init 9 = .ok (.invokespecial 9, 3) := by decide +kernel
theorem dX2_init_12 : decode cX2_init 12 = .ok (.putfield 10, 3) := by decide +kernel
theorem dX2_init_15 : decode cX2_init 15 = .ok (.aload_n 0, 1) := by decide +kernel
theorem dX2_init_16 : decode cX2_init 16 = .ok (.new 16, 3) := by decide +kernel
theorem dX2_init_19 : decode cX2_init 19 = .ok (.dup, 1) := by decide +kernel
theorem dX2_init_20 : decode cX2_init 20 = .ok (.invokespecial 18, 3) := by decide +kernel
theorem dX2_init_23 : decode cX2_init 23 = .ok (.putfield 19, 3) := by decide +kernel
theorem dX2_init_26 : decode cX2_init 26 = .ok (.return_, 1) := by decide +kernel
theorem dX2_townCount_0 : decode cX2_townCount 0 = .ok (.aload_n 0, 1) := by decide +kernel
theorem dX2_townCount_1 : decode cX2_townCount 1 = .ok (.getfield 10, 3) := by decide +kernel
theorem dX2_townCount_4 : decode cX2_townCount 4 = .ok (.invokevirtual 23, 3) := by decide +kernel
theorem dX2_townCount_7 : decode cX2_townCount 7 = .ok (.ireturn, 1) := by decide +kernel
theorem dX2_townAt_0 : decode cX2_townAt 0 = .ok (.iload_n 1, 1) := by decide +kernel
theorem dX2_townAt_1 : decode cX2_townAt 1 = .ok (.ifCond .lt 14, 3) := by decide +kernel
theorem dX2_townAt_4 : decode cX2_townAt 4 = .ok (.iload_n 1, 1) := by decide +kernel
theorem dX2_townAt_5 : decode cX2_townAt 5 = .ok (.aload_n 0, 1) := by decide +kernel
theorem dX2_townAt_6 : decode cX2_townAt 6 = .ok (.getfield 10, 3) := by decide +kernel
theorem dX2_townAt_9 : decode cX2_townAt 9 = .ok (.invokevirtual 23, 3) := by decide +kernel
theorem dX2_townAt_12 : decode cX2_townAt 12 = .ok (.if_icmp .lt 7, 3) := by decide +kernel
theorem dX2_townAt_15 : decode cX2_townAt 15 = .ok (.aconst_null, 1) := by decide +kernel
theorem dX2_townAt_16 : decode cX2_townAt 16 = .ok (.goto 14, 3) := by decide +kernel
theorem dX2_townAt_19 : decode cX2_townAt 19 = .ok (.aload_n 0, 1) := by decide +kernel
theorem dX2_townAt_20 : decode cX2_townAt 20 = .ok (.getfield 10, 3) := by decide +kernel
theorem dX2_townAt_23 : decode cX2_townAt 23 = .ok (.iload_n 1, 1) := by decide +kernel
theorem dX2_townAt_24 : decode cX2_townAt 24 = .ok (.invokevirtual 27, 3) := by decide +kernel
theorem dX2_townAt_27 : decode cX2_townAt 27 = .ok (.checkcast 31, 3) := by decide +kernel
theorem dX2_townAt_30 : decode cX2_townAt 30 = .ok (.areturn, 1) := by decide +kernel
theorem dX2_settle_0 : decode cX2_settle 0 = .ok (.aload_n 0, 1) := by decide +kernel
theorem dX2_settle_1 : decode cX2_settle 1 = .ok (.getfield 10, 3) := by decide +kernel
theorem dX2_settle_4 : decode cX2_settle 4 = .ok (.aload_n 1, 1) := by decide +kernel
theorem dX2_settle_5 : decode cX2_settle 5 = .ok (.invokevirtual 33, 3) := by decide +kernel
theorem dX2_settle_8 : decode cX2_settle 8 = .ok (.pop, 1) := by decide +kernel
theorem dX2_settle_9 : decode cX2_settle 9 = .ok (.return_, 1) := by decide +kernel
theorem dX2_canSend_0 : decode cX2_canSend 0 = .ok (.aload_n 0, 1) := by decide +kernel
theorem dX2_canSend_1 : decode cX2_canSend 1 = .ok (.getfield 19, 3) := by decide +kernel
theorem dX2_canSend_4 : decode cX2_canSend 4 = .ok (.invokevirtual 37, 3) := by decide +kernel
theorem dX2_canSend_7 : decode cX2_canSend 7 = .ok (.ifCond .ne 7, 3) := by decide +kernel
theorem dX2_canSend_10 : decode cX2_canSend 10 = .ok (.iconst 1, 1) := by decide +kernel
theorem dX2_canSend_11 : decode cX2_canSend 11 = .ok (.goto 4, 3) := by decide +kernel
theorem dX2_canSend_14 : decode cX2_canSend 14 = .ok (.iconst 0, 1) := by decide +kernel
theorem dX2_canSend_15 : decode cX2_canSend 15 = .ok (.ireturn, 1) := by decide +kernel
theorem dX2_send_0 : decode cX2_send 0 = .ok (.aload_n 0, 1) := by decide +kernel
theorem dX2_send_1 : decode cX2_send 1 = .ok (.iload_n 1, 1) := by decide +kernel
theorem dX2_send_2 : decode cX2_send 2 = .ok (.invokevirtual 41, 3) := by decide +kernel
theorem dX2_send_5 : decode cX2_send 5 = .ok (.astore 4, 2) := by decide +kernel
theorem dX2_send_7 : decode cX2_send 7 = .ok (.aload 4, 2) := by decide +kernel
theorem dX2_send_9 : decode cX2_send 9 = .ok (.ifnonnull 4, 3) := by decide +kernel
theorem dX2_send_12 : decode cX2_send 12 = .ok (.return_, 1) := by decide +kernel
theorem dX2_send_13 : decode cX2_send 13 = .ok (.aload 4, 2) := by decide +kernel
theorem dX2_send_15 : decode cX2_send 15 = .ok (.getfield 45, 3) := by decide +kernel
theorem dX2_send_18 : decode cX2_send 18 = .ok (.iload_n 3, 1) := by decide +kernel
theorem dX2_send_19 : decode cX2_send 19 = .ok (.invokevirtual 49, 3) := by decide +kernel
theorem dX2_send_22 : decode cX2_send 22 = .ok (.aload_n 0, 1) := by decide +kernel
theorem dX2_send_23 : decode cX2_send 23 = .ok (.getfield 19, 3) := by decide +kernel
theorem dX2_send_26 : decode cX2_send 26 = .ok (.aload_n 2, 1) := by decide +kernel
theorem dX2_send_27 : decode cX2_send 27 = .ok (.iload_n 1, 1) := by decide +kernel
theorem dX2_send_28 : decode cX2_send 28 = .ok (.invokevirtual 55, 3) := by decide +kernel
theorem dX2_send_31 : decode cX2_send 31 = .ok (.aload_n 0, 1) := by decide +kernel
theorem dX2_send_32 : decode cX2_send 32 = .ok (.getfield 61, 3) := by decide +kernel
theorem dX2_send_35 : decode cX2_send 35 = .ok (.aload_n 2, 1) := by decide +kernel
theorem dX2_send_36 : decode cX2_send 36 = .ok (.getfield 65, 3) := by decide +kernel
theorem dX2_send_39 : decode cX2_send 39 = .ok (.iadd, 1) := by decide +kernel
theorem dX2_send_40 : decode cX2_send 40 = .ok (.iload_n 3, 1) := by decide +kernel
theorem dX2_send_41 : decode cX2_send 41 = .ok (.invokevirtual 68, 3) := by decide +kernel
theorem dX2_send_44 : decode cX2_send 44 = .ok (.return_, 1) := by decide +kernel
theorem dX2_measuresOnTheWay_0 : decode cX2_measuresOnTheWay 0 = .ok (.aload_n 0, 1) := by decide +kernel
theorem dX2_measuresOnTheWay_1 : decode cX2_measuresOnTheWay 1 = .ok (.getfield 19, 3) := by decide +kernel
theorem dX2_measuresOnTheWay_4 : decode cX2_measuresOnTheWay 4 = .ok (.invokevirtual 71, 3) := by decide +kernel
theorem dX2_measuresOnTheWay_7 : decode cX2_measuresOnTheWay 7 = .ok (.lreturn, 1) := by decide +kernel
theorem dX2_hungerEver_0 : decode cX2_hungerEver 0 = .ok (.lconst 0, 1) := by decide +kernel
theorem dX2_hungerEver_1 : decode cX2_hungerEver 1 = .ok (.lstore_n 1, 1) := by decide +kernel
theorem dX2_hungerEver_2 : decode cX2_hungerEver 2 = .ok (.iconst 0, 1) := by decide +kernel
theorem dX2_hungerEver_3 : decode cX2_hungerEver 3 = .ok (.istore_n 3, 1) := by decide +kernel
theorem dX2_hungerEver_4 : decode cX2_hungerEver 4 = .ok (.iload_n 3, 1) := by decide +kernel
theorem dX2_hungerEver_5 : decode cX2_hungerEver 5 = .ok (.aload_n 0, 1) := by decide +kernel
theorem dX2_hungerEver_6 : decode cX2_hungerEver 6 = .ok (.getfield 10, 3) := by decide +kernel
theorem dX2_hungerEver_9 : decode cX2_hungerEver 9 = .ok (.invokevirtual 23, 3) := by decide +kernel
theorem dX2_hungerEver_12 : decode cX2_hungerEver 12 = .ok (.if_icmp .ge 26, 3) := by decide +kernel
theorem dX2_hungerEver_15 : decode cX2_hungerEver 15 = .ok (.lload_n 1, 1) := by decide +kernel
theorem dX2_hungerEver_16 : decode cX2_hungerEver 16 = .ok (.aload_n 0, 1) := by decide +kernel
theorem dX2_hungerEver_17 : decode cX2_hungerEver 17 = .ok (.getfield 10, 3) := by decide +kernel
theorem dX2_hungerEver_20 : decode cX2_hungerEver 20 = .ok (.iload_n 3, 1) := by decide +kernel
theorem dX2_hungerEver_21 : decode cX2_hungerEver 21 = .ok (.invokevirtual 27, 3) := by decide +kernel
theorem dX2_hungerEver_24 : decode cX2_hungerEver 24 = .ok (.checkcast 31, 3) := by decide +kernel
theorem dX2_hungerEver_27 : decode cX2_hungerEver 27 = .ok (.getfield 75, 3) := by decide +kernel
theorem dX2_hungerEver_30 : decode cX2_hungerEver 30 = .ok (.ladd, 1) := by decide +kernel
theorem dX2_hungerEver_31 : decode cX2_hungerEver 31 = .ok (.lstore_n 1, 1) := by decide +kernel
theorem dX2_hungerEver_32 : decode cX2_hungerEver 32 = .ok (.iinc 3 1, 3) := by decide +kernel
theorem dX2_hungerEver_35 : decode cX2_hungerEver 35 = .ok (.goto (-31), 3) := by decide +kernel
theorem dX2_hungerEver_38 : decode cX2_hungerEver 38 = .ok (.lload_n 1, 1) := by decide +kernel
theorem dX2_hungerEver_39 : decode cX2_hungerEver 39 = .ok (.lreturn, 1) := by decide +kernel
theorem dX2_passMonths_0 : decode cX2_passMonths 0 = .ok (.lconst 0, 1) := by decide +kernel
theorem dX2_passMonths_1 : decode cX2_passMonths 1 = .ok (.lstore_n 3, 1) := by decide +kernel
theorem dX2_passMonths_2 : decode cX2_passMonths 2 = .ok (.iconst 0, 1) := by decide +kernel
theorem dX2_passMonths_3 : decode cX2_passMonths 3 = .ok (.istore 5, 2) := by decide +kernel
theorem dX2_passMonths_5 : decode cX2_passMonths 5 = .ok (.iload 5, 2) := by decide +kernel
theorem dX2_passMonths_7 : decode cX2_passMonths 7 = .ok (.iload_n 1, 1) := by decide +kernel
theorem dX2_passMonths_8 : decode cX2_passMonths 8 = .ok (.if_icmp .ge 109, 3) := by decide +kernel
theorem dX2_passMonths_11 : decode cX2_passMonths 11 = .ok (.aload_n 0, 1) := by decide +kernel
theorem dX2_passMonths_12 : decode cX2_passMonths 12 = .ok (.dup, 1) := by decide +kernel
theorem dX2_passMonths_13 : decode cX2_passMonths 13 = .ok (.getfield 61, 3) := by decide +kernel
theorem dX2_passMonths_16 : decode cX2_passMonths 16 = .ok (.iconst 1, 1) := by decide +kernel
theorem dX2_passMonths_17 : decode cX2_passMonths 17 = .ok (.iadd, 1) := by decide +kernel
theorem dX2_passMonths_18 : decode cX2_passMonths 18 = .ok (.putfield 61, 3) := by decide +kernel
theorem dX2_passMonths_21 : decode cX2_passMonths 21 = .ok (.aload_n 0, 1) := by decide +kernel
theorem dX2_passMonths_22 : decode cX2_passMonths 22 = .ok (.invokevirtual 79, 3) := by decide +kernel
theorem dX2_passMonths_25 : decode cX2_passMonths 25 = .ok (.aload_n 0, 1) := by decide +kernel
theorem dX2_passMonths_26 : decode cX2_passMonths 26 = .ok (.invokevirtual 82, 3) := by decide +kernel
theorem dX2_passMonths_29 : decode cX2_passMonths 29 = .ok (.iconst 0, 1) := by decide +kernel
theorem dX2_passMonths_30 : decode cX2_passMonths 30 = .ok (.istore 6, 2) := by decide +kernel
theorem dX2_passMonths_32 : decode cX2_passMonths 32 = .ok (.iload 6, 2) := by decide +kernel
theorem dX2_passMonths_34 : decode cX2_passMonths 34 = .ok (.aload_n 0, 1) := by decide +kernel
theorem dX2_passMonths_35 : decode cX2_passMonths 35 = .ok (.getfield 10, 3) := by decide +kernel
theorem dX2_passMonths_38 : decode cX2_passMonths 38 = .ok (.invokevirtual 23, 3) := by decide +kernel
theorem dX2_passMonths_41 : decode cX2_passMonths 41 = .ok (.if_icmp .ge 26, 3) := by decide +kernel
theorem dX2_passMonths_44 : decode cX2_passMonths 44 = .ok (.aload_n 0, 1) := by decide +kernel
theorem dX2_passMonths_45 : decode cX2_passMonths 45 = .ok (.aload_n 0, 1) := by decide +kernel
theorem dX2_passMonths_46 : decode cX2_passMonths 46 = .ok (.getfield 10, 3) := by decide +kernel
theorem dX2_passMonths_49 : decode cX2_passMonths 49 = .ok (.iload 6, 2) := by decide +kernel
theorem dX2_passMonths_51 : decode cX2_passMonths 51 = .ok (.invokevirtual 27, 3) := by decide +kernel
theorem dX2_passMonths_54 : decode cX2_passMonths 54 = .ok (.checkcast 31, 3) := by decide +kernel
theorem dX2_passMonths_57 : decode cX2_passMonths 57 = .ok (.aload_n 2, 1) := by decide +kernel
theorem dX2_passMonths_58 : decode cX2_passMonths 58 = .ok (.invokevirtual 85, 3) := by decide +kernel
theorem dX2_passMonths_61 : decode cX2_passMonths 61 = .ok (.iinc 6 1, 3) := by decide +kernel
theorem dX2_passMonths_64 : decode cX2_passMonths 64 = .ok (.goto (-32), 3) := by decide +kernel
theorem dX2_passMonths_67 : decode cX2_passMonths 67 = .ok (.iconst 0, 1) := by decide +kernel
theorem dX2_passMonths_68 : decode cX2_passMonths 68 = .ok (.istore 6, 2) := by decide +kernel
theorem dX2_passMonths_70 : decode cX2_passMonths 70 = .ok (.iload 6, 2) := by decide +kernel
theorem dX2_passMonths_72 : decode cX2_passMonths 72 = .ok (.aload_n 0, 1) := by decide +kernel
theorem dX2_passMonths_73 : decode cX2_passMonths 73 = .ok (.getfield 10, 3) := by decide +kernel
theorem dX2_passMonths_76 : decode cX2_passMonths 76 = .ok (.invokevirtual 23, 3) := by decide +kernel
theorem dX2_passMonths_79 : decode cX2_passMonths 79 = .ok (.if_icmp .ge 27, 3) := by decide +kernel
theorem dX2_passMonths_82 : decode cX2_passMonths 82 = .ok (.lload_n 3, 1) := by decide +kernel
theorem dX2_passMonths_83 : decode cX2_passMonths 83 = .ok (.aload_n 0, 1) := by decide +kernel
theorem dX2_passMonths_84 : decode cX2_passMonths 84 = .ok (.getfield 10, 3) := by decide +kernel
theorem dX2_passMonths_87 : decode cX2_passMonths 87 = .ok (.iload 6, 2) := by decide +kernel
theorem dX2_passMonths_89 : decode cX2_passMonths 89 = .ok (.invokevirtual 27, 3) := by decide +kernel
theorem dX2_passMonths_92 : decode cX2_passMonths 92 = .ok (.checkcast 31, 3) := by decide +kernel
theorem dX2_passMonths_95 : decode cX2_passMonths 95 = .ok (.invokevirtual 89, 3) := by decide +kernel
theorem dX2_passMonths_98 : decode cX2_passMonths 98 = .ok (.ladd, 1) := by decide +kernel
theorem dX2_passMonths_99 : decode cX2_passMonths 99 = .ok (.lstore_n 3, 1) := by decide +kernel
theorem dX2_passMonths_100 : decode cX2_passMonths 100 = .ok (.iinc 6 1, 3) := by decide +kernel
theorem dX2_passMonths_103 : decode cX2_passMonths 103 = .ok (.goto (-33), 3) := by decide +kernel
theorem dX2_passMonths_106 : decode cX2_passMonths 106 = .ok (.aload_n 0, 1) := by decide +kernel
theorem dX2_passMonths_107 : decode cX2_passMonths 107 = .ok (.aload_n 2, 1) := by decide +kernel
theorem dX2_passMonths_108 : decode cX2_passMonths 108 = .ok (.invokevirtual 92, 3) := by decide +kernel
theorem dX2_passMonths_111 : decode cX2_passMonths 111 = .ok (.iinc 5 1, 3) := by decide +kernel
theorem dX2_passMonths_114 : decode cX2_passMonths 114 = .ok (.goto (-109), 3) := by decide +kernel
theorem dX2_passMonths_117 : decode cX2_passMonths 117 = .ok (.lload_n 3, 1) := by decide +kernel
theorem dX2_passMonths_118 : decode cX2_passMonths 118 = .ok (.lreturn, 1) := by decide +kernel
theorem dX2_imitate_0 : decode cX2_imitate 0 = .ok (.aload_n 0, 1) := by decide +kernel
theorem dX2_imitate_1 : decode cX2_imitate 1 = .ok (.aload_n 1, 1) := by decide +kernel
theorem dX2_imitate_2 : decode cX2_imitate 2 = .ok (.getfield 61, 3) := by decide +kernel
theorem dX2_imitate_5 : decode cX2_imitate 5 = .ok (.putfield 61, 3) := by decide +kernel
theorem dX2_imitate_8 : decode cX2_imitate 8 = .ok (.aload_n 0, 1) := by decide +kernel
theorem dX2_imitate_9 : decode cX2_imitate 9 = .ok (.aload_n 1, 1) := by decide +kernel
theorem dX2_imitate_10 : decode cX2_imitate 10 = .ok (.getfield 96, 3) := by decide +kernel
theorem dX2_imitate_13 : decode cX2_imitate 13 = .ok (.putfield 96, 3) := by decide +kernel
theorem dX2_imitate_16 : decode cX2_imitate 16 = .ok (.aload_n 0, 1) := by decide +kernel
theorem dX2_imitate_17 : decode cX2_imitate 17 = .ok (.getfield 19, 3) := by decide +kernel
theorem dX2_imitate_20 : decode cX2_imitate 20 = .ok (.aload_n 1, 1) := by decide +kernel
theorem dX2_imitate_21 : decode cX2_imitate 21 = .ok (.getfield 19, 3) := by decide +kernel
theorem dX2_imitate_24 : decode cX2_imitate 24 = .ok (.invokevirtual 99, 3) := by decide +kernel
theorem dX2_imitate_27 : decode cX2_imitate 27 = .ok (.iconst 0, 1) := by decide +kernel
theorem dX2_imitate_28 : decode cX2_imitate 28 = .ok (.istore_n 2, 1) := by decide +kernel
theorem dX2_imitate_29 : decode cX2_imitate 29 = .ok (.iload_n 2, 1) := by decide +kernel
theorem dX2_imitate_30 : decode cX2_imitate 30 = .ok (.aload_n 1, 1) := by decide +kernel
theorem dX2_imitate_31 : decode cX2_imitate 31 = .ok (.getfield 10, 3) := by decide +kernel
theorem dX2_imitate_34 : decode cX2_imitate 34 = .ok (.invokevirtual 23, 3) := by decide +kernel
theorem dX2_imitate_37 : decode cX2_imitate 37 = .ok (.if_icmp .ge 63, 3) := by decide +kernel
theorem dX2_imitate_40 : decode cX2_imitate 40 = .ok (.iload_n 2, 1) := by decide +kernel
theorem dX2_imitate_41 : decode cX2_imitate 41 = .ok (.aload_n 0, 1) := by decide +kernel
theorem dX2_imitate_42 : decode cX2_imitate 42 = .ok (.getfield 10, 3) := by decide +kernel
theorem dX2_imitate_45 : decode cX2_imitate 45 = .ok (.invokevirtual 23, 3) := by decide +kernel
theorem dX2_imitate_48 : decode cX2_imitate 48 = .ok (.if_icmp .lt 21, 3) := by decide +kernel
theorem dX2_imitate_51 : decode cX2_imitate 51 = .ok (.aload_n 0, 1) := by decide +kernel
theorem dX2_imitate_52 : decode cX2_imitate 52 = .ok (.getfield 10, 3) := by decide +kernel
theorem dX2_imitate_55 : decode cX2_imitate 55 = .ok (.new 31, 3) := by decide +kernel
theorem dX2_imitate_58 : decode cX2_imitate 58 = .ok (.dup, 1) := by decide +kernel
theorem dX2_imitate_59 : decode cX2_imitate 59 = .ok (.iconst 0, 1) := by decide +kernel
theorem dX2_imitate_60 : decode cX2_imitate 60 = .ok (.iconst 0, 1) := by decide +kernel
theorem dX2_imitate_61 : decode cX2_imitate 61 = .ok (.iconst 0, 1) := by decide +kernel
theorem dX2_imitate_62 : decode cX2_imitate 62 = .ok (.invokespecial 103, 3) := by decide +kernel
theorem dX2_imitate_65 : decode cX2_imitate 65 = .ok (.invokevirtual 33, 3) := by decide +kernel
theorem dX2_imitate_68 : decode cX2_imitate 68 = .ok (.pop, 1) := by decide +kernel
theorem dX2_imitate_69 : decode cX2_imitate 69 = .ok (.aload_n 0, 1) := by decide +kernel
theorem dX2_imitate_70 : decode cX2_imitate 70 = .ok (.getfield 10, 3) := by decide +kernel
theorem dX2_imitate_73 : decode cX2_imitate 73 = .ok (.iload_n 2, 1) := by decide +kernel
theorem dX2_imitate_74 : decode cX2_imitate 74 = .ok (.invokevirtual 27, 3) := by decide +kernel
theorem dX2_imitate_77 : decode cX2_imitate 77 = .ok (.checkcast 31, 3) := by decide +kernel
theorem dX2_imitate_80 : decode cX2_imitate 80 = .ok (.aload_n 1, 1) := by decide +kernel
theorem dX2_imitate_81 : decode cX2_imitate 81 = .ok (.getfield 10, 3) := by decide +kernel
theorem dX2_imitate_84 : decode cX2_imitate 84 = .ok (.iload_n 2, 1) := by decide +kernel
theorem dX2_imitate_85 : decode cX2_imitate 85 = .ok (.invokevirtual 27, 3) := by decide +kernel
theorem dX2_imitate_88 : decode cX2_imitate 88 = .ok (.checkcast 31, 3) := by decide +kernel
theorem dX2_imitate_91 : decode cX2_imitate 91 = .ok (.invokevirtual 105, 3) := by decide +kernel
theorem dX2_imitate_94 : decode cX2_imitate 94 = .ok (.iinc 2 1, 3) := by decide +kernel
theorem dX2_imitate_97 : decode cX2_imitate 97 = .ok (.goto (-68), 3) := by decide +kernel
theorem dX2_imitate_100 : decode cX2_imitate 100 = .ok (.return_, 1) := by decide +kernel
theorem dX2_unload_0 : decode cX2_unload 0 = .ok (.iconst 0, 1) := by decide +kernel
theorem dX2_unload_1 : decode cX2_unload 1 = .ok (.istore_n 1, 1) := by decide +kernel
theorem dX2_unload_2 : decode cX2_unload 2 = .ok (.iload_n 1, 1) := by decide +kernel
theorem dX2_unload_3 : decode cX2_unload 3 = .ok (.aload_n 0, 1) := by decide +kernel
theorem dX2_unload_4 : decode cX2_unload 4 = .ok (.getfield 19, 3) := by decide +kernel
theorem dX2_unload_7 : decode cX2_unload 7 = .ok (.invokevirtual 108, 3) := by decide +kernel
theorem dX2_unload_10 : decode cX2_unload 10 = .ok (.if_icmp .ge 57, 3) := by decide +kernel
theorem dX2_unload_13 : decode cX2_unload 13 = .ok (.aload_n 0, 1) := by decide +kernel
theorem dX2_unload_14 : decode cX2_unload 14 = .ok (.aload_n 0, 1) := by decide +kernel
theorem dX2_unload_15 : decode cX2_unload 15 = .ok (.getfield 19, 3) := by decide +kernel
theorem dX2_unload_18 : decode cX2_unload 18 = .ok (.iload_n 1, 1) := by decide +kernel
theorem dX2_unload_19 : decode cX2_unload 19 = .ok (.invokevirtual 109, 3) := by decide +kernel
theorem dX2_unload_22 : decode cX2_unload 22 = .ok (.invokevirtual 41, 3) := by decide +kernel
theorem dX2_unload_25 : decode cX2_unload 25 = .ok (.astore_n 2, 1) := by decide +kernel
theorem dX2_unload_26 : decode cX2_unload 26 = .ok (.aload_n 2, 1) := by decide +kernel
theorem dX2_unload_27 : decode cX2_unload 27 = .ok (.ifnull 34, 3) := by decide +kernel
theorem dX2_unload_30 : decode cX2_unload 30 = .ok (.aload_n 0, 1) := by decide +kernel
theorem dX2_unload_31 : decode cX2_unload 31 = .ok (.getfield 19, 3) := by decide +kernel
theorem dX2_unload_34 : decode cX2_unload 34 = .ok (.iload_n 1, 1) := by decide +kernel
theorem dX2_unload_35 : decode cX2_unload 35 = .ok (.aload_n 0, 1) := by decide +kernel
theorem dX2_unload_36 : decode cX2_unload 36 = .ok (.getfield 61, 3) := by decide +kernel
theorem dX2_unload_39 : decode cX2_unload 39 = .ok (.invokevirtual 112, 3) := by decide +kernel
theorem dX2_unload_42 : decode cX2_unload 42 = .ok (.ifCond .eq 19, 3) := by decide +kernel
theorem dX2_unload_45 : decode cX2_unload 45 = .ok (.aload_n 2, 1) := by decide +kernel
theorem dX2_unload_46 : decode cX2_unload 46 = .ok (.aload_n 0, 1) := by decide +kernel
theorem dX2_unload_47 : decode cX2_unload 47 = .ok (.getfield 19, 3) := by decide +kernel
theorem dX2_unload_50 : decode cX2_unload 50 = .ok (.iload_n 1, 1) := by decide +kernel
theorem dX2_unload_51 : decode cX2_unload 51 = .ok (.invokevirtual 116, 3) := by decide +kernel
theorem dX2_unload_54 : decode cX2_unload 54 = .ok (.aload_n 0, 1) := by decide +kernel
theorem dX2_unload_55 : decode cX2_unload 55 = .ok (.getfield 61, 3) := by decide +kernel
theorem dX2_unload_58 : decode cX2_unload 58 = .ok (.invokevirtual 119, 3) := by decide +kernel
theorem dX2_unload_61 : decode cX2_unload 61 = .ok (.iinc 1 1, 3) := by decide +kernel
theorem dX2_unload_64 : decode cX2_unload 64 = .ok (.goto (-62), 3) := by decide +kernel
theorem dX2_unload_67 : decode cX2_unload 67 = .ok (.aload_n 0, 1) := by decide +kernel
theorem dX2_unload_68 : decode cX2_unload 68 = .ok (.getfield 19, 3) := by decide +kernel
theorem dX2_unload_71 : decode cX2_unload 71 = .ok (.aload_n 0, 1) := by decide +kernel
theorem dX2_unload_72 : decode cX2_unload 72 = .ok (.getfield 61, 3) := by decide +kernel
theorem dX2_unload_75 : decode cX2_unload 75 = .ok (.invokevirtual 123, 3) := by decide +kernel
theorem dX2_unload_78 : decode cX2_unload 78 = .ok (.return_, 1) := by decide +kernel
theorem dX2_reapAndPayBack_0 : decode cX2_reapAndPayBack 0 = .ok (.iconst 0, 1) := by decide +kernel
theorem dX2_reapAndPayBack_1 : decode cX2_reapAndPayBack 1 = .ok (.istore_n 1, 1) := by decide +kernel
theorem dX2_reapAndPayBack_2 : decode cX2_reapAndPayBack 2 = .ok (.iload_n 1, 1) := by decide +kernel
theorem dX2_reapAndPayBack_3 : decode cX2_reapAndPayBack 3 = .ok (.aload_n 0, 1) := by decide +kernel
theorem dX2_reapAndPayBack_4 : decode cX2_reapAndPayBack 4 = .ok (.getfield 10, 3) := by decide +kernel
theorem dX2_reapAndPayBack_7 : decode cX2_reapAndPayBack 7 = .ok (.invokevirtual 23, 3) := by decide +kernel
theorem dX2_reapAndPayBack_10 : decode cX2_reapAndPayBack 10 = .ok (.if_icmp .ge 45, 3) := by decide +kernel
theorem dX2_reapAndPayBack_13 : decode cX2_reapAndPayBack 13 = .ok (.aload_n 0, 1) := by decide +kernel
theorem dX2_reapAndPayBack_14 : decode cX2_reapAndPayBack 14 = .ok (.getfield 10, 3) := by decide +kernel
theorem dX2_reapAndPayBack_17 : decode cX2_reapAndPayBack 17 = .ok (.iload_n 1, 1) := by decide +kernel
theorem dX2_reapAndPayBack_18 : decode cX2_reapAndPayBack 18 = .ok (.invokevirtual 27, 3) := by decide +kernel
theorem dX2_reapAndPayBack_21 : decode cX2_reapAndPayBack 21 = .ok (.checkcast 31, 3) := by decide +kernel
theorem dX2_reapAndPayBack_24 : decode cX2_reapAndPayBack 24 = .ok (.astore_n 2, 1) := by decide +kernel
theorem dX2_reapAndPayBack_25 : decode cX2_reapAndPayBack 25 = .ok (.aload_n 2, 1) := by decide +kernel
theorem dX2_reapAndPayBack_26 : decode cX2_reapAndPayBack 26 = .ok (.invokevirtual 126, 3) := by decide +kernel
theorem dX2_reapAndPayBack_29 : decode cX2_reapAndPayBack 29 = .ok (.aload_n 0, 1) := by decide +kernel
theorem dX2_reapAndPayBack_30 : decode cX2_reapAndPayBack 30 = .ok (.getfield 61, 3) := by decide +kernel
theorem dX2_reapAndPayBack_33 : decode cX2_reapAndPayBack 33 = .ok (.bipush 12, 2) := by decide +kernel
theorem dX2_reapAndPayBack_35 : decode cX2_reapAndPayBack 35 = .ok (.irem, 1) := by decide +kernel
theorem dX2_reapAndPayBack_36 : decode cX2_reapAndPayBack 36 = .ok (.bipush 9, 2) := by decide +kernel
theorem dX2_reapAndPayBack_38 : decode cX2_reapAndPayBack 38 = .ok (.if_icmp .ne 11, 3) := by decide +kernel
theorem dX2_reapAndPayBack_41 : decode cX2_reapAndPayBack 41 = .ok (.aload_n 2, 1) := by decide +kernel
theorem dX2_reapAndPayBack_42 : decode cX2_reapAndPayBack 42 = .ok (.aload_n 0, 1) := by decide +kernel
theorem dX2_reapAndPayBack_43 : decode cX2_reapAndPayBack 43 = .ok (.getfield 61, 3) := by decide +kernel
theorem dX2_reapAndPayBack_46 : decode cX2_reapAndPayBack 46 = .ok (.invokevirtual 129, 3) := by decide +kernel
theorem dX2_reapAndPayBack_49 : decode cX2_reapAndPayBack 49 = .ok (.iinc 1 1, 3) := by decide +kernel
theorem dX2_reapAndPayBack_52 : decode cX2_reapAndPayBack 52 = .ok (.goto (-50), 3) := by decide +kernel
theorem dX2_reapAndPayBack_55 : decode cX2_reapAndPayBack 55 = .ok (.return_, 1) := by decide +kernel
theorem dX2_trade_0 : decode cX2_trade 0 = .ok (.aload_n 1, 1) := by decide +kernel
theorem dX2_trade_1 : decode cX2_trade 1 = .ok (.invokevirtual 132, 3) := by decide +kernel
theorem dX2_trade_4 : decode cX2_trade 4 = .ok (.istore_n 3, 1) := by decide +kernel
theorem dX2_trade_5 : decode cX2_trade 5 = .ok (.iload_n 3, 1) := by decide +kernel
theorem dX2_trade_6 : decode cX2_trade 6 = .ok (.aload_n 2, 1) := by decide +kernel
theorem dX2_trade_7 : decode cX2_trade 7 = .ok (.iconst 0, 1) := by decide +kernel
theorem dX2_trade_8 : decode cX2_trade 8 = .ok (.invokevirtual 137, 3) := by decide +kernel
theorem dX2_trade_11 : decode cX2_trade 11 = .ok (.if_icmp .gt 75, 3) := by decide +kernel
theorem dX2_trade_14 : decode cX2_trade 14 = .ok (.aload_n 2, 1) := by decide +kernel
theorem dX2_trade_15 : decode cX2_trade 15 = .ok (.iconst 1, 1) := by decide +kernel
theorem dX2_trade_16 : decode cX2_trade 16 = .ok (.invokevirtual 137, 3) := by decide +kernel
theorem dX2_trade_19 : decode cX2_trade 19 = .ok (.i2l, 1) := by decide +kernel
theorem dX2_trade_20 : decode cX2_trade 20 = .ok (.aload_n 1, 1) := by decide +kernel
theorem dX2_trade_21 : decode cX2_trade 21 = .ok (.getfield 45, 3) := by decide +kernel
theorem dX2_trade_24 : decode cX2_trade 24 = .ok (.invokevirtual 140, 3) := by decide +kernel
theorem dX2_trade_27 : decode cX2_trade 27 = .ok (.i2l, 1) := by decide +kernel
theorem dX2_trade_28 : decode cX2_trade 28 = .ok (.aload_n 1, 1) := by decide +kernel
theorem dX2_trade_29 : decode cX2_trade 29 = .ok (.getfield 143, 3) := by decide +kernel
theorem dX2_trade_32 : decode cX2_trade 32 = .ok (.invokestatic 146, 3) := by decide +kernel
theorem dX2_trade_35 : decode cX2_trade 35 = .ok (.invokestatic 146, 3) := by decide +kernel
theorem dX2_trade_38 : decode cX2_trade 38 = .ok (.lstore 4, 2) := by decide +kernel
theorem dX2_trade_40 : decode cX2_trade 40 = .ok (.iload_n 3, 1) := by decide +kernel
theorem dX2_trade_41 : decode cX2_trade 41 = .ok (.ifCond .le 17, 3) := by decide +kernel
theorem dX2_trade_44 : decode cX2_trade 44 = .ok (.lload 4, 2) := by decide +kernel
theorem dX2_trade_46 : decode cX2_trade 46 = .ok (.aload_n 0, 1) := by decide +kernel
theorem dX2_trade_47 : decode cX2_trade 47 = .ok (.getfield 96, 3) := by decide +kernel
theorem dX2_trade_50 : decode cX2_trade 50 = .ok (.iload_n 3, 1) := by decide +kernel
theorem dX2_trade_51 : decode cX2_trade 51 = .ok (.i2l, 1) := by decide +kernel
theorem dX2_trade_52 : decode cX2_trade 52 = .ok (.ldiv, 1) := by decide +kernel
theorem dX2_trade_53 : decode cX2_trade 53 = .ok (.invokestatic 146, 3) := by decide +kernel
theorem dX2_trade_56 : decode cX2_trade 56 = .ok (.lstore 4, 2) := by decide +kernel
theorem dX2_trade_58 : decode cX2_trade 58 = .ok (.aload_n 0, 1) := by decide +kernel
theorem dX2_trade_59 : decode cX2_trade 59 = .ok (.dup, 1) := by decide +kernel
theorem dX2_trade_60 : decode cX2_trade 60 = .ok (.getfield 96, 3) := by decide +kernel
theorem dX2_trade_63 : decode cX2_trade 63 = .ok (.lload 4, 2) := by decide +kernel
theorem dX2_trade_65 : decode cX2_trade 65 = .ok (.iload_n 3, 1) := by decide +kernel
theorem dX2_trade_66 : decode cX2_trade 66 = .ok (.i2l, 1) := by decide +kernel
theorem dX2_trade_67 : decode cX2_trade 67 = .ok (.lmul, 1) := by decide +kernel
theorem dX2_trade_68 : decode cX2_trade 68 = .ok (.lsub, 1) := by decide +kernel
theorem dX2_trade_69 : decode cX2_trade 69 = .ok (.putfield 96, 3) := by decide +kernel
theorem dX2_trade_72 : decode cX2_trade 72 = .ok (.aload_n 1, 1) := by decide +kernel
theorem dX2_trade_73 : decode cX2_trade 73 = .ok (.lload 4, 2) := by decide +kernel
theorem dX2_trade_75 : decode cX2_trade 75 = .ok (.l2i, 1) := by decide +kernel
theorem dX2_trade_76 : decode cX2_trade 76 = .ok (.aload_n 0, 1) := by decide +kernel
theorem dX2_trade_77 : decode cX2_trade 77 = .ok (.getfield 61, 3) := by decide +kernel
theorem dX2_trade_80 : decode cX2_trade 80 = .ok (.invokevirtual 152, 3) := by decide +kernel
theorem dX2_trade_83 : decode cX2_trade 83 = .ok (.goto 50, 3) := by decide +kernel
theorem dX2_trade_86 : decode cX2_trade 86 = .ok (.iload_n 3, 1) := by decide +kernel
theorem dX2_trade_87 : decode cX2_trade 87 = .ok (.aload_n 2, 1) := by decide +kernel
theorem dX2_trade_88 : decode cX2_trade 88 = .ok (.iconst 2, 1) := by decide +kernel
theorem dX2_trade_89 : decode cX2_trade 89 = .ok (.invokevirtual 137, 3) := by decide +kernel
theorem dX2_trade_92 : decode cX2_trade 92 = .ok (.if_icmp .lt 41, 3) := by decide +kernel
theorem dX2_trade_95 : decode cX2_trade 95 = .ok (.aload_n 2, 1) := by decide +kernel
theorem dX2_trade_96 : decode cX2_trade 96 = .ok (.iconst 3, 1) := by decide +kernel
theorem dX2_trade_97 : decode cX2_trade 97 = .ok (.invokevirtual 137, 3) := by decide +kernel
theorem dX2_trade_100 : decode cX2_trade 100 = .ok (.aload_n 1, 1) := by decide +kernel
theorem dX2_trade_101 : decode cX2_trade 101 = .ok (.getfield 45, 3) := by decide +kernel
theorem dX2_trade_104 : decode cX2_trade 104 = .ok (.invokevirtual 155, 3) := by decide +kernel
theorem dX2_trade_107 : decode cX2_trade 107 = .ok (.invokestatic 158, 3) := by decide +kernel
theorem dX2_trade_110 : decode cX2_trade 110 = .ok (.istore 4, 2) := by decide +kernel
theorem dX2_trade_112 : decode cX2_trade 112 = .ok (.aload_n 0, 1) := by decide +kernel
theorem dX2_trade_113 : decode cX2_trade 113 = .ok (.dup, 1) := by decide +kernel
theorem dX2_trade_114 : decode cX2_trade 114 = .ok (.getfield 96, 3) := by decide +kernel
theorem dX2_trade_117 : decode cX2_trade 117 = .ok (.iload 4, 2) := by decide +kernel
theorem dX2_trade_119 : decode cX2_trade 119 = .ok (.i2l, 1) := by decide +kernel
theorem dX2_trade_120 : decode cX2_trade 120 = .ok (.iload_n 3, 1) := by decide +kernel
theorem dX2_trade_121 : decode cX2_trade 121 = .ok (.i2l, 1) := by decide +kernel
theorem dX2_trade_122 : decode cX2_trade 122 = .ok (.lmul, 1) := by decide +kernel
theorem dX2_trade_123 : decode cX2_trade 123 = .ok (.ladd, 1) := by decide +kernel
theorem dX2_trade_124 : decode cX2_trade 124 = .ok (.putfield 96, 3) := by decide +kernel
theorem dX2_trade_127 : decode cX2_trade 127 = .ok (.aload_n 1, 1) := by decide +kernel
theorem dX2_trade_128 : decode cX2_trade 128 = .ok (.iload 4, 2) := by decide +kernel
theorem dX2_trade_130 : decode cX2_trade 130 = .ok (.invokevirtual 161, 3) := by decide +kernel
theorem dX2_trade_133 : decode cX2_trade 133 = .ok (.return_, 1) := by decide +kernel
theorem dX2_ageStores_0 : decode cX2_ageStores 0 = .ok (.aload_n 0, 1) := by decide +kernel
theorem dX2_ageStores_1 : decode cX2_ageStores 1 = .ok (.getfield 61, 3) := by decide +kernel
theorem dX2_ageStores_4 : decode cX2_ageStores 4 = .ok (.aload_n 1, 1) := by decide +kernel
theorem dX2_ageStores_5 : decode cX2_ageStores 5 = .ok (.iconst 5, 1) := by decide +kernel
theorem dX2_ageStores_6 : decode cX2_ageStores 6 = .ok (.invokevirtual 137, 3) := by decide +kernel
theorem dX2_ageStores_9 : decode cX2_ageStores 9 = .ok (.isub, 1) := by decide +kernel
theorem dX2_ageStores_10 : decode cX2_ageStores 10 = .ok (.istore_n 2, 1) := by decide +kernel
theorem dX2_ageStores_11 : decode cX2_ageStores 11 = .ok (.aload_n 0, 1) := by decide +kernel
theorem dX2_ageStores_12 : decode cX2_ageStores 12 = .ok (.getfield 61, 3) := by decide +kernel
theorem dX2_ageStores_15 : decode cX2_ageStores 15 = .ok (.bipush 12, 2) := by decide +kernel
theorem dX2_ageStores_17 : decode cX2_ageStores 17 = .ok (.irem, 1) := by decide +kernel
theorem dX2_ageStores_18 : decode cX2_ageStores 18 = .ok (.ifCond .ne 7, 3) := by decide +kernel
theorem dX2_ageStores_21 : decode cX2_ageStores 21 = .ok (.iconst 1, 1) := by decide +kernel
theorem dX2_ageStores_22 : decode cX2_ageStores 22 = .ok (.goto 4, 3) := by decide +kernel
theorem dX2_ageStores_25 : decode cX2_ageStores 25 = .ok (.iconst 0, 1) := by decide +kernel
theorem dX2_ageStores_26 : decode cX2_ageStores 26 = .ok (.istore_n 3, 1) := by decide +kernel
theorem dX2_ageStores_27 : decode cX2_ageStores 27 = .ok (.iconst 0, 1) := by decide +kernel
theorem dX2_ageStores_28 : decode cX2_ageStores 28 = .ok (.istore 4, 2) := by decide +kernel
theorem dX2_ageStores_30 : decode cX2_ageStores 30 = .ok (.iload 4, 2) := by decide +kernel
theorem dX2_ageStores_32 : decode cX2_ageStores 32 = .ok (.aload_n 0, 1) := by decide +kernel
theorem dX2_ageStores_33 : decode cX2_ageStores 33 = .ok (.getfield 10, 3) := by decide +kernel
theorem dX2_ageStores_36 : decode cX2_ageStores 36 = .ok (.invokevirtual 23, 3) := by decide +kernel
theorem dX2_ageStores_39 : decode cX2_ageStores 39 = .ok (.if_icmp .ge 54, 3) := by decide +kernel
theorem dX2_ageStores_42 : decode cX2_ageStores 42 = .ok (.aload_n 0, 1) := by decide +kernel
theorem dX2_ageStores_43 : decode cX2_ageStores 43 = .ok (.getfield 10, 3) := by decide +kernel
theorem dX2_ageStores_46 : decode cX2_ageStores 46 = .ok (.iload 4, 2) := by decide +kernel
theorem dX2_ageStores_48 : decode cX2_ageStores 48 = .ok (.invokevirtual 27, 3) := by decide +kernel
theorem dX2_ageStores_51 : decode cX2_ageStores 51 = .ok (.checkcast 31, 3) := by decide +kernel
theorem dX2_ageStores_54 : decode cX2_ageStores 54 = .ok (.astore 5, 2) := by decide +kernel
theorem dX2_ageStores_56 : decode cX2_ageStores 56 = .ok (.aload 5, 2) := by decide +kernel
theorem dX2_ageStores_58 : decode cX2_ageStores 58 = .ok (.iload_n 2, 1) := by decide +kernel
theorem dX2_ageStores_59 : decode cX2_ageStores 59 = .ok (.aload_n 1, 1) := by decide +kernel
theorem dX2_ageStores_60 : decode cX2_ageStores 60 = .ok (.bipush 6, 2) := by decide +kernel
theorem dX2_ageStores_62 : decode cX2_ageStores 62 = .ok (.invokevirtual 137, 3) := by decide +kernel
theorem dX2_ageStores_65 : decode cX2_ageStores 65 = .ok (.invokevirtual 164, 3) := by decide +kernel
theorem dX2_ageStores_68 : decode cX2_ageStores 68 = .ok (.iload_n 3, 1) := by decide +kernel
theorem dX2_ageStores_69 : decode cX2_ageStores 69 = .ok (.ifCond .eq 18, 3) := by decide +kernel
theorem dX2_ageStores_72 : decode cX2_ageStores 72 = .ok (.aload 5, 2) := by decide +kernel
theorem dX2_ageStores_74 : decode cX2_ageStores 74 = .ok (.aload_n 1, 1) := by decide +kernel
theorem dX2_ageStores_75 : decode cX2_ageStores 75 = .ok (.bipush 7, 2) := by decide +kernel
theorem dX2_ageStores_77 : decode cX2_ageStores 77 = .ok (.invokevirtual 137, 3) := by decide +kernel
theorem dX2_ageStores_80 : decode cX2_ageStores 80 = .ok (.aload_n 0, 1) := by decide +kernel
theorem dX2_ageStores_81 : decode cX2_ageStores 81 = .ok (.getfield 61, 3) := by decide +kernel
theorem dX2_ageStores_84 : decode cX2_ageStores 84 = .ok (.invokevirtual 167, 3) := by decide +kernel
theorem dX2_ageStores_87 : decode cX2_ageStores 87 = .ok (.iinc 4 1, 3) := by decide +kernel
theorem dX2_ageStores_90 : decode cX2_ageStores 90 = .ok (.goto (-60), 3) := by decide +kernel
theorem dX2_ageStores_93 : decode cX2_ageStores 93 = .ok (.return_, 1) := by decide +kernel
theorem dX3_init_0 : decode cX3_init 0 = .ok (.aload_n 0, 1) := by decide +kernel
theorem dX3_init_1 : decode cX3_init 1 = .ok (.invokespecial 1, 3) := by decide +kernel
theorem dX3_init_4 : decode cX3_init 4 = .ok (.aload_n 0, 1) := by decide +kernel
theorem dX3_init_5 : decode cX3_init 5 = .ok (.iload_n 1, 1) := by decide +kernel
theorem dX3_init_6 : decode cX3_init 6 = .ok (.putfield 7, 3) := by decide +kernel
theorem dX3_init_9 : decode cX3_init 9 = .ok (.aload_n 0, 1) := by decide +kernel
theorem dX3_init_10 : decode cX3_init 10 = .ok (.iload_n 2, 1) := by decide +kernel
theorem dX3_init_11 : decode cX3_init 11 = .ok (.putfield 13, 3) := by decide +kernel
theorem dX3_init_14 : decode cX3_init 14 = .ok (.aload_n 0, 1) := by decide +kernel
theorem dX3_init_15 : decode cX3_init 15 = .ok (.iload_n 3, 1) := by decide +kernel
theorem dX3_init_16 : decode cX3_init 16 = .ok (.putfield 16, 3) := by decide +kernel
theorem dX3_init_19 : decode cX3_init 19 = .ok (.aload_n 0, 1) := by decide +kernel
theorem dX3_init_20 : decode cX3_init 20 = .ok (.iload 4, 2) := by decide +kernel
theorem dX3_init_22 : decode cX3_init 22 = .ok (.putfield 19, 3) := by decide +kernel
theorem dX3_init_25 : decode cX3_init 25 = .ok (.return_, 1) := by decide +kernel
theorem dX3_touches_0 : decode cX3_touches 0 = .ok (.iload_n 1, 1) := by decide +kernel
theorem dX3_touches_1 : decode cX3_touches 1 = .ok (.aload_n 0, 1) := by decide +kernel
theorem dX3_touches_2 : decode cX3_touches 2 = .ok (.getfield 7, 3) := by decide +kernel
theorem dX3_touches_5 : decode cX3_touches 5 = .ok (.if_icmp .eq 11, 3) := by decide +kernel
theorem dX3_touches_8 : decode cX3_touches 8 = .ok (.iload_n 1, 1) := by decide +kernel
theorem dX3_touches_9 : decode cX3_touches 9 = .ok (.aload_n 0, 1) := by decide +kernel
theorem dX3_touches_10 : decode cX3_touches 10 = .ok (.getfield 13, 3) := by decide +kernel
theorem dX3_touches_13 : decode cX3_touches 13 = .ok (.if_icmp .ne 7, 3) := by decide +kernel
theorem dX3_touches_16 : decode cX3_touches 16 = .ok (.iconst 1, 1) := by decide +kernel
theorem dX3_touches_17 : decode cX3_touches 17 = .ok (.goto 4, 3) := by decide +kernel
theorem dX3_touches_20 : decode cX3_touches 20 = .ok (.iconst 0, 1) := by decide +kernel
theorem dX3_touches_21 : decode cX3_touches 21 = .ok (.ireturn, 1) := by decide +kernel
theorem dX3_otherEnd_0 : decode cX3_otherEnd 0 = .ok (.iload_n 1, 1) := by decide +kernel
theorem dX3_otherEnd_1 : decode cX3_otherEnd 1 = .ok (.aload_n 0, 1) := by decide +kernel
theorem dX3_otherEnd_2 : decode cX3_otherEnd 2 = .ok (.getfield 7, 3) := by decide +kernel
theorem dX3_otherEnd_5 : decode cX3_otherEnd 5 = .ok (.if_icmp .ne 10, 3) := by decide +kernel
theorem dX3_otherEnd_8 : decode cX3_otherEnd 8 = .ok (.aload_n 0, 1) := by decide +kernel
theorem dX3_otherEnd_9 : decode cX3_otherEnd 9 = .ok (.getfield 13, 3) := by decide +kernel
theorem dX3_otherEnd_12 : decode cX3_otherEnd 12 = .ok (.goto 7, 3) := by decide +kernel
theorem dX3_otherEnd_15 : decode cX3_otherEnd 15 = .ok (.aload_n 0, 1) := by decide +kernel
theorem dX3_otherEnd_16 : decode cX3_otherEnd 16 = .ok (.getfield 7, 3) := by decide +kernel
theorem dX3_otherEnd_19 : decode cX3_otherEnd 19 = .ok (.ireturn, 1) := by decide +kernel
theorem dX4_init_0 : decode cX4_init 0 = .ok (.aload_n 0, 1) := by decide +kernel
theorem dX4_init_1 : decode cX4_init 1 = .ok (.invokespecial 3, 3) := by decide +kernel
theorem dX4_init_4 : decode cX4_init 4 = .ok (.aload_n 0, 1) := by decide +kernel
theorem dX4_init_5 : decode cX4_init 5 = .ok (.bipush 40, 2) := by decide +kernel
theorem dX4_init_7 : decode cX4_init 7 = .ok (.newarray .int, 2) := by decide +kernel
theorem dX4_init_9 : decode cX4_init 9 = .ok (.putfield 11, 3) := by decide +kernel
theorem dX4_init_12 : decode cX4_init 12 = .ok (.aload_n 0, 1) := by decide +kernel
theorem dX4_init_13 : decode cX4_init 13 = .ok (.bipush 40, 2) := by decide +kernel
theorem dX4_init_15 : decode cX4_init 15 = .ok (.newarray .int, 2) := by decide +kernel
theorem dX4_init_17 : decode cX4_init 17 = .ok (.putfield 15, 3) := by decide +kernel
theorem dX4_init_20 : decode cX4_init 20 = .ok (.aload_n 0, 1) := by decide +kernel
theorem dX4_init_21 : decode cX4_init 21 = .ok (.bipush 40, 2) := by decide +kernel
theorem dX4_init_23 : decode cX4_init 23 = .ok (.newarray .int, 2) := by decide +kernel
theorem dX4_init_25 : decode cX4_init 25 = .ok (.putfield 18, 3) := by decide +kernel
theorem dX4_init_28 : decode cX4_init 28 = .ok (.aload_n 0, 1) := by decide +kernel
theorem dX4_init_29 : decode cX4_init 29 = .ok (.bipush 40, 2) := by decide +kernel
theorem dX4_init_31 : decode cX4_init 31 = .ok (.newarray .int, 2) := by decide +kernel
theorem dX4_init_33 : decode cX4_init 33 = .ok (.putfield 21, 3) := by decide +kernel
theorem dX4_init_36 : decode cX4_init 36 = .ok (.aload_n 0, 1) := by decide +kernel
theorem dX4_init_37 : decode cX4_init 37 = .ok (.iload_n 1, 1) := by decide +kernel
theorem dX4_init_38 : decode cX4_init 38 = .ok (.putfield 24, 3) := by decide +kernel
theorem dX4_init_41 : decode cX4_init 41 = .ok (.return_, 1) := by decide +kernel
theorem dX4_room_0 : decode cX4_room 0 = .ok (.aload_n 0, 1) := by decide +kernel
theorem dX4_room_1 : decode cX4_room 1 = .ok (.getfield 24, 3) := by decide +kernel
theorem dX4_room_4 : decode cX4_room 4 = .ok (.ireturn, 1) := by decide +kernel
theorem dX4_held_0 : decode cX4_held 0 = .ok (.aload_n 0, 1) := by decide +kernel
theorem dX4_held_1 : decode cX4_held 1 = .ok (.getfield 28, 3) := by decide +kernel
theorem dX4_held_4 : decode cX4_held 4 = .ok (.ireturn, 1) := by decide +kernel
theorem dX4_space_0 : decode cX4_space 0 = .ok (.aload_n 0, 1) := by decide +kernel
theorem dX4_space_1 : decode cX4_space 1 = .ok (.getfield 24, 3) := by decide +kernel
theorem dX4_space_4 : decode cX4_space 4 = .ok (.aload_n 0, 1) := by decide +kernel
theorem dX4_space_5 : decode cX4_space 5 = .ok (.getfield 28, 3) := by decide +kernel
theorem dX4_space_8 : decode cX4_space 8 = .ok (.isub, 1) := by decide +kernel
theorem dX4_space_9 : decode cX4_space 9 = .ok (.ireturn, 1) := by decide +kernel
theorem dX4_lotCount_0 : decode cX4_lotCount 0 = .ok (.aload_n 0, 1) := by decide +kernel
theorem dX4_lotCount_1 : decode cX4_lotCount 1 = .ok (.getfield 31, 3) := by decide +kernel
theorem dX4_lotCount_4 : decode cX4_lotCount 4 = .ok (.ireturn, 1) := by decide +kernel
theorem dX4_foundEver_0 : decode cX4_foundEver 0 = .ok (.aload_n 0, 1) := by decide +kernel
theorem dX4_foundEver_1 : decode cX4_foundEver 1 = .ok (.getfield 34, 3) := by decide +kernel
theorem dX4_foundEver_4 : decode cX4_foundEver 4 = .ok (.lreturn, 1) := by decide +kernel
theorem dX4_hasLot_0 : decode cX4_hasLot 0 = .ok (.iload_n 1, 1) := by decide +kernel
theorem dX4_hasLot_1 : decode cX4_hasLot 1 = .ok (.ifCond .lt 15, 3) := by decide +kernel
theorem dX4_hasLot_4 : decode cX4_hasLot 4 = .ok (.iload_n 1, 1) := by decide +kernel
theorem dX4_hasLot_5 : decode cX4_hasLot 5 = .ok (.aload_n 0, 1) := by decide +kernel
theorem dX4_hasLot_6 : decode cX4_hasLot 6 = .ok (.getfield 31, 3) := by decide +kernel
theorem dX4_hasLot_9 : decode cX4_hasLot 9 = .ok (.if_icmp .ge 7, 3) := by decide +kernel
theorem dX4_hasLot_12 : decode cX4_hasLot 12 = .ok (.iconst 1, 1) := by decide +kernel
theorem dX4_hasLot_13 : decode cX4_hasLot 13 = .ok (.goto 4, 3) := by decide +kernel
theorem dX4_hasLot_16 : decode cX4_hasLot 16 = .ok (.iconst 0, 1) := by decide +kernel
theorem dX4_hasLot_17 : decode cX4_hasLot 17 = .ok (.ireturn, 1) := by decide +kernel
theorem dX4_monthOf_0 : decode cX4_monthOf 0 = .ok (.aload_n 0, 1) := by decide +kernel
theorem dX4_monthOf_1 : decode cX4_monthOf 1 = .ok (.iload_n 1, 1) := by decide +kernel
theorem dX4_monthOf_2 : decode cX4_monthOf 2 = .ok (.invokevirtual 38, 3) := by decide +kernel
theorem dX4_monthOf_5 : decode cX4_monthOf 5 = .ok (.ifCond .eq 12, 3) := by decide +kernel
theorem dX4_monthOf_8 : decode cX4_monthOf 8 = .ok (.aload_n 0, 1) := by decide +kernel
theorem dX4_monthOf_9 : decode cX4_monthOf 9 = .ok (.getfield 11, 3) := by decide +kernel
theorem dX4_monthOf_12 : decode cX4_monthOf 12 = .ok (.iload_n 1, 1) := by decide +kernel
theorem dX4_monthOf_13 : decode cX4_monthOf 13 = .ok (.iaload, 1) := by decide +kernel
theorem dX4_monthOf_14 : decode cX4_monthOf 14 = .ok (.goto 4, 3) := by decide +kernel
theorem dX4_monthOf_17 : decode cX4_monthOf 17 = .ok (.iconst (-1), 1) := by decide +kernel
theorem dX4_monthOf_18 : decode cX4_monthOf 18 = .ok (.ireturn, 1) := by decide +kernel
theorem dX4_bookOf_0 : decode cX4_bookOf 0 = .ok (.aload_n 0, 1) := by decide +kernel
theorem dX4_bookOf_1 : decode cX4_bookOf 1 = .ok (.iload_n 1, 1) := by decide +kernel
theorem dX4_bookOf_2 : decode cX4_bookOf 2 = .ok (.invokevirtual 38, 3) := by decide +kernel
theorem dX4_bookOf_5 : decode cX4_bookOf 5 = .ok (.ifCond .eq 12, 3) := by decide +kernel
theorem dX4_bookOf_8 : decode cX4_bookOf 8 = .ok (.aload_n 0, 1) := by decide +kernel
theorem dX4_bookOf_9 : decode cX4_bookOf 9 = .ok (.getfield 15, 3) := by decide +kernel
theorem dX4_bookOf_12 : decode cX4_bookOf 12 = .ok (.iload_n 1, 1) := by decide +kernel
theorem dX4_bookOf_13 : decode cX4_bookOf 13 = .ok (.iaload, 1) := by decide +kernel
theorem dX4_bookOf_14 : decode cX4_bookOf 14 = .ok (.goto 4, 3) := by decide +kernel
theorem dX4_bookOf_17 : decode cX4_bookOf 17 = .ok (.iconst (-1), 1) := by decide +kernel
theorem dX4_bookOf_18 : decode cX4_bookOf 18 = .ok (.ireturn, 1) := by decide +kernel
theorem dX4_measuredOf_0 : decode cX4_measuredOf 0 = .ok (.aload_n 0, 1) := by decide +kernel
theorem dX4_measuredOf_1 : decode cX4_measuredOf 1 = .ok (.iload_n 1, 1) := by decide +kernel
theorem dX4_measuredOf_2 : decode cX4_measuredOf 2 = .ok (.invokevirtual 38, 3) := by decide +kernel
theorem dX4_measuredOf_5 : decode cX4_measuredOf 5 = .ok (.ifCond .eq 12, 3) := by decide +kernel
theorem dX4_measuredOf_8 : decode cX4_measuredOf 8 = .ok (.aload_n 0, 1) := by decide +kernel
theorem dX4_measuredOf_9 : decode cX4_measuredOf 9 = .ok (.getfield 21, 3) := by decide +kernel
theorem dX4_measuredOf_12 : decode cX4_measuredOf 12 = .ok (.iload_n 1, 1) := by decide +kernel
theorem dX4_measuredOf_13 : decode cX4_measuredOf 13 = .ok (.iaload, 1) := by decide +kernel
theorem dX4_measuredOf_14 : decode cX4_measuredOf 14 = .ok (.goto 4, 3) := by decide +kernel
theorem dX4_measuredOf_17 : decode cX4_measuredOf 17 = .ok (.iconst (-1), 1) := by decide +kernel
theorem dX4_measuredOf_18 : decode cX4_measuredOf 18 = .ok (.ireturn, 1) := by decide +kernel
theorem dX4_bookInAll_0 : decode cX4_bookInAll 0 = .ok (.lconst 0, 1) := by decide +kernel
theorem dX4_bookInAll_1 : decode cX4_bookInAll 1 = .ok (.lstore_n 1, 1) := by decide +kernel
theorem dX4_bookInAll_2 : decode cX4_bookInAll 2 = .ok (.iconst 0, 1) := by decide +kernel
theorem dX4_bookInAll_3 : decode cX4_bookInAll 3 = .ok (.istore_n 3, 1) := by decide +kernel
theorem dX4_bookInAll_4 : decode cX4_bookInAll 4 = .ok (.iload_n 3, 1) := by decide +kernel
theorem dX4_bookInAll_5 : decode cX4_bookInAll 5 = .ok (.aload_n 0, 1) := by decide +kernel
theorem dX4_bookInAll_6 : decode cX4_bookInAll 6 = .ok (.getfield 31, 3) := by decide +kernel
theorem dX4_bookInAll_9 : decode cX4_bookInAll 9 = .ok (.if_icmp .ge 19, 3) := by decide +kernel
theorem dX4_bookInAll_12 : decode cX4_bookInAll 12 = .ok (.lload_n 1, 1) := by decide +kernel
theorem dX4_bookInAll_13 : decode cX4_bookInAll 13 = .ok (.aload_n 0, 1) := by decide +kernel
theorem dX4_bookInAll_14 : decode cX4_bookInAll 14 = .ok (.getfield 15, 3) := by decide +kernel
theorem dX4_bookInAll_17 : decode cX4_bookInAll 17 = .ok (.iload_n 3, 1) := by decide +kernel
theorem dX4_bookInAll_18 : decode cX4_bookInAll 18 = .ok (.iaload, 1) := by decide +kernel
theorem dX4_bookInAll_19 : decode cX4_bookInAll 19 = .ok (.i2l, 1) := by decide +kernel
theorem dX4_bookInAll_20 : decode cX4_bookInAll 20 = .ok (.ladd, 1) := by decide +kernel
theorem dX4_bookInAll_21 : decode cX4_bookInAll 21 = .ok (.lstore_n 1, 1) := by decide +kernel
theorem dX4_bookInAll_22 : decode cX4_bookInAll 22 = .ok (.iinc 3 1, 3) := by decide +kernel
theorem dX4_bookInAll_25 : decode cX4_bookInAll 25 = .ok (.goto (-21), 3) := by decide +kernel
theorem dX4_bookInAll_28 : decode cX4_bookInAll 28 = .ok (.lload_n 1, 1) := by decide +kernel
theorem dX4_bookInAll_29 : decode cX4_bookInAll 29 = .ok (.lreturn, 1) := by decide +kernel
theorem dX4_unmeasuredBook_0 : decode cX4_unmeasuredBook 0 = .ok (.lconst 0, 1) := by decide +kernel
theorem dX4_unmeasuredBook_1 : decode cX4_unmeasuredBook 1 = .ok (.lstore_n 1, 1) := by decide +kernel
theorem dX4_unmeasuredBook_2 : decode cX4_unmeasuredBook 2 = .ok (.iconst 0, 1) := by decide +kernel
theorem dX4_unmeasuredBook_3 : decode cX4_unmeasuredBook 3 = .ok (.istore_n 3, 1) := by decide +kernel
theorem dX4_unmeasuredBook_4 : decode cX4_unmeasuredBook 4 = .ok (.iload_n 3, 1) := by decide +kernel
theorem dX4_unmeasuredBook_5 : decode cX4_unmeasuredBook 5 = .ok (.aload_n 0, 1) := by decide +kernel
theorem dX4_unmeasuredBook_6 : decode cX4_unmeasuredBook 6 = .ok (.getfield 31, 3) := by decide +kernel
theorem dX4_unmeasuredBook_9 : decode cX4_unmeasuredBook 9 = .ok (.if_icmp .ge 28, 3) := by decide +kernel
theorem dX4_unmeasuredBook_12 : decode cX4_unmeasuredBook 12 = .ok (.aload_n 0, 1) := by decide +kernel
theorem dX4_unmeasuredBook_13 : decode cX4_unmeasuredBook 13 = .ok (.getfield 21, 3) := by decide +kernel
theorem dX4_unmeasuredBook_16 : decode cX4_unmeasuredBook 16 = .ok (.iload_n 3, 1) := by decide +kernel
theorem dX4_unmeasuredBook_17 : decode cX4_unmeasuredBook 17 = .ok (.iaload, 1) := by decide +kernel
theorem dX4_unmeasuredBook_18 : decode cX4_unmeasuredBook 18 = .ok (.ifCond .ne 13, 3) := by decide +kernel
theorem dX4_unmeasuredBook_21 : decode cX4_unmeasuredBook 21 = .ok (.lload_n 1, 1) := by decide +kernel
theorem dX4_unmeasuredBook_22 : decode cX4_unmeasuredBook 22 = .ok (.aload_n 0, 1) := by decide +kernel
theorem dX4_unmeasuredBook_23 : decode cX4_unmeasuredBook 23 = .ok (.getfield 15, 3) := by decide +kernel
theorem dX4_unmeasuredBook_26 : decode cX4_unmeasuredBook 26 = .ok (.iload_n 3, 1) := by decide +kernel
theorem dX4_unmeasuredBook_27 : decode cX4_unmeasuredBook 27 = .ok (.iaload, 1) := by decide +kernel
theorem dX4_unmeasuredBook_28 : decode cX4_unmeasuredBook 28 = .ok (.i2l, 1) := by decide +kernel
theorem dX4_unmeasuredBook_29 : decode cX4_unmeasuredBook 29 = .ok (.ladd, 1) := by decide +kernel
theorem dX4_unmeasuredBook_30 : decode cX4_unmeasuredBook 30 = .ok (.lstore_n 1, 1) := by decide +kernel
theorem dX4_unmeasuredBook_31 : decode cX4_unmeasuredBook 31 = .ok (.iinc 3 1, 3) := by decide +kernel
theorem dX4_unmeasuredBook_34 : decode cX4_unmeasuredBook 34 = .ok (.goto (-30), 3) := by decide +kernel
theorem dX4_unmeasuredBook_37 : decode cX4_unmeasuredBook 37 = .ok (.lload_n 1, 1) := by decide +kernel
theorem dX4_unmeasuredBook_38 : decode cX4_unmeasuredBook 38 = .ok (.lreturn, 1) := by decide +kernel
theorem dX4_put_0 : decode cX4_put 0 = .ok (.iload_n 1, 1) := by decide +kernel
theorem dX4_put_1 : decode cX4_put 1 = .ok (.ifCond .gt 4, 3) := by decide +kernel
theorem dX4_put_4 : decode cX4_put 4 = .ok (.return_, 1) := by decide +kernel
theorem dX4_put_5 : decode cX4_put 5 = .ok (.aload_n 0, 1) := by decide +kernel
theorem dX4_put_6 : decode cX4_put 6 = .ok (.getfield 31, 3) := by decide +kernel
theorem dX4_put_9 : decode cX4_put 9 = .ok (.ifCond .eq 27, 3) := by decide +kernel
theorem dX4_put_12 : decode cX4_put 12 = .ok (.aload_n 0, 1) := by decide +kernel
theorem dX4_put_13 : decode cX4_put 13 = .ok (.getfield 31, 3) := by decide +kernel
theorem dX4_put_16 : decode cX4_put 16 = .ok (.bipush 40, 2) := by decide +kernel
theorem dX4_put_18 : decode cX4_put 18 = .ok (.if_icmp .ge 58, 3) := by decide +kernel
theorem dX4_put_21 : decode cX4_put 21 = .ok (.aload_n 0, 1) := by decide +kernel
theorem dX4_put_22 : decode cX4_put 22 = .ok (.getfield 11, 3) := by decide +kernel
theorem dX4_put_25 : decode cX4_put 25 = .ok (.aload_n 0, 1) := by decide +kernel
theorem dX4_put_26 : decode cX4_put 26 = .ok (.getfield 31, 3) := by decide +kernel
theorem dX4_put_29 : decode cX4_put 29 = .ok (.iconst 1, 1) := by decide +kernel
theorem dX4_put_30 : decode cX4_put 30 = .ok (.isub, 1) := by decide +kernel
theorem dX4_put_31 : decode cX4_put 31 = .ok (.iaload, 1) := by decide +kernel
theorem dX4_put_32 : decode cX4_put 32 = .ok (.iload_n 2, 1) := by decide +kernel
theorem dX4_put_33 : decode cX4_put 33 = .ok (.if_icmp .eq 43, 3) := by decide +kernel
theorem dX4_put_36 : decode cX4_put 36 = .ok (.aload_n 0, 1) := by decide +kernel
theorem dX4_put_37 : decode cX4_put 37 = .ok (.getfield 11, 3) := by decide +kernel
theorem dX4_put_40 : decode cX4_put 40 = .ok (.aload_n 0, 1) := by decide +kernel
theorem dX4_put_41 : decode cX4_put 41 = .ok (.getfield 31, 3) := by decide +kernel
theorem dX4_put_44 : decode cX4_put 44 = .ok (.iload_n 2, 1) := by decide +kernel
theorem dX4_put_45 : decode cX4_put 45 = .ok (.iastore, 1) := by decide +kernel
theorem dX4_put_46 : decode cX4_put 46 = .ok (.aload_n 0, 1) := by decide +kernel
theorem dX4_put_47 : decode cX4_put 47 = .ok (.getfield 15, 3) := by decide +kernel
theorem dX4_put_50 : decode cX4_put 50 = .ok (.aload_n 0, 1) := by decide +kernel
theorem dX4_put_51 : decode cX4_put 51 = .ok (.getfield 31, 3) := by decide +kernel
theorem dX4_put_54 : decode cX4_put 54 = .ok (.iconst 0, 1) := by decide +kernel
theorem dX4_put_55 : decode cX4_put 55 = .ok (.iastore, 1) := by decide +kernel
theorem dX4_put_56 : decode cX4_put 56 = .ok (.aload_n 0, 1) := by decide +kernel
theorem dX4_put_57 : decode cX4_put 57 = .ok (.getfield 18, 3) := by decide +kernel
theorem dX4_put_60 : decode cX4_put 60 = .ok (.aload_n 0, 1) := by decide +kernel
theorem dX4_put_61 : decode cX4_put 61 = .ok (.getfield 31, 3) := by decide +kernel
theorem dX4_put_64 : decode cX4_put 64 = .ok (.iconst 0, 1) := by decide +kernel
theorem dX4_put_65 : decode cX4_put 65 = .ok (.iastore, 1) := by decide +kernel
theorem dX4_put_66 : decode cX4_put 66 = .ok (.aload_n 0, 1) := by decide +kernel
theorem dX4_put_67 : decode cX4_put 67 = .ok (.dup, 1) := by decide +kernel
theorem dX4_put_68 : decode cX4_put 68 = .ok (.getfield 31, 3) := by decide +kernel
theorem dX4_put_71 : decode cX4_put 71 = .ok (.iconst 1, 1) := by decide +kernel
theorem dX4_put_72 : decode cX4_put 72 = .ok (.iadd, 1) := by decide +kernel
theorem dX4_put_73 : decode cX4_put 73 = .ok (.putfield 31, 3) := by decide +kernel
theorem dX4_put_76 : decode cX4_put 76 = .ok (.aload_n 0, 1) := by decide +kernel
theorem dX4_put_77 : decode cX4_put 77 = .ok (.getfield 31, 3) := by decide +kernel
theorem dX4_put_80 : decode cX4_put 80 = .ok (.iconst 1, 1) := by decide +kernel
theorem dX4_put_81 : decode cX4_put 81 = .ok (.isub, 1) := by decide +kernel
theorem dX4_put_82 : decode cX4_put 82 = .ok (.istore_n 3, 1) := by decide +kernel
theorem dX4_put_83 : decode cX4_put 83 = .ok (.aload_n 0, 1) := by decide +kernel
theorem dX4_put_84 : decode cX4_put 84 = .ok (.getfield 15, 3) := by decide +kernel
theorem dX4_put_87 : decode cX4_put 87 = .ok (.iload_n 3, 1) := by decide +kernel
theorem dX4_put_88 : decode cX4_put 88 = .ok (.dup2, 1) := by decide +kernel
theorem dX4_put_89 : decode cX4_put 89 = .ok (.iaload, 1) := by decide +kernel
theorem dX4_put_90 : decode cX4_put 90 = .ok (.iload_n 1, 1) := by decide +kernel
theorem dX4_put_91 : decode cX4_put 91 = .ok (.iadd, 1) := by decide +kernel
theorem dX4_put_92 : decode cX4_put 92 = .ok (.iastore, 1) := by decide +kernel
theorem dX4_put_93 : decode cX4_put 93 = .ok (.aload_n 0, 1) := by decide +kernel
theorem dX4_put_94 : decode cX4_put 94 = .ok (.getfield 18, 3) := by decide +kernel
theorem dX4_put_97 : decode cX4_put 97 = .ok (.iload_n 3, 1) := by decide +kernel
theorem dX4_put_98 : decode cX4_put 98 = .ok (.dup2, 1) := by decide +kernel
theorem dX4_put_99 : decode cX4_put 99 = .ok (.iaload, 1) := by decide +kernel
theorem dX4_put_100 : decode cX4_put 100 = .ok (.iload_n 1, 1) := by decide +kernel
theorem dX4_put_101 : decode cX4_put 101 = .ok (.iadd, 1) := by decide +kernel
theorem dX4_put_102 : decode cX4_put 102 = .ok (.iastore, 1) := by decide +kernel
theorem dX4_put_103 : decode cX4_put 103 = .ok (.aload_n 0, 1) := by decide +kernel
theorem dX4_put_104 : decode cX4_put 104 = .ok (.getfield 21, 3) := by decide +kernel
theorem dX4_put_107 : decode cX4_put 107 = .ok (.iload_n 3, 1) := by decide +kernel
theorem dX4_put_108 : decode cX4_put 108 = .ok (.iconst 0, 1) := by decide +kernel
theorem dX4_put_109 : decode cX4_put 109 = .ok (.iastore, 1) := by decide +kernel
theorem dX4_put_110 : decode cX4_put 110 = .ok (.aload_n 0, 1) := by decide +kernel
theorem dX4_put_111 : decode cX4_put 111 = .ok (.dup, 1) := by decide +kernel
theorem dX4_put_112 : decode cX4_put 112 = .ok (.getfield 28, 3) := by decide +kernel
theorem dX4_put_115 : decode cX4_put 115 = .ok (.iload_n 1, 1) := by decide +kernel
theorem dX4_put_116 : decode cX4_put 116 = .ok (.iadd, 1) := by decide +kernel
theorem dX4_put_117 : decode cX4_put 117 = .ok (.putfield 28, 3) := by decide +kernel
theorem dX4_put_120 : decode cX4_put 120 = .ok (.return_, 1) := by decide +kernel
theorem dX4_take_0 : decode cX4_take 0 = .ok (.iload_n 1, 1) := by decide +kernel
theorem dX4_take_1 : decode cX4_take 1 = .ok (.istore_n 2, 1) := by decide +kernel
theorem dX4_take_2 : decode cX4_take 2 = .ok (.iconst 0, 1) := by decide +kernel
theorem dX4_take_3 : decode cX4_take 3 = .ok (.istore_n 3, 1) := by decide +kernel
theorem dX4_take_4 : decode cX4_take 4 = .ok (.iconst 0, 1) := by decide +kernel
theorem dX4_take_5 : decode cX4_take 5 = .ok (.istore 4, 2) := by decide +kernel
theorem dX4_take_7 : decode cX4_take 7 = .ok (.iload 4, 2) := by decide +kernel
theorem dX4_take_9 : decode cX4_take 9 = .ok (.aload_n 0, 1) := by decide +kernel
theorem dX4_take_10 : decode cX4_take 10 = .ok (.getfield 31, 3) := by decide +kernel
theorem dX4_take_13 : decode cX4_take 13 = .ok (.if_icmp .ge 69, 3) := by decide +kernel
theorem dX4_take_16 : decode cX4_take 16 = .ok (.iload_n 2, 1) := by decide +kernel
theorem dX4_take_17 : decode cX4_take 17 = .ok (.ifCond .le 65, 3) := by decide +kernel
theorem dX4_take_20 : decode cX4_take 20 = .ok (.iload_n 2, 1) := by decide +kernel
theorem dX4_take_21 : decode cX4_take 21 = .ok (.aload_n 0, 1) := by decide +kernel
theorem dX4_take_22 : decode cX4_take 22 = .ok (.getfield 18, 3) := by decide +kernel
theorem dX4_take_25 : decode cX4_take 25 = .ok (.iload 4, 2) := by decide +kernel
theorem dX4_take_27 : decode cX4_take 27 = .ok (.iaload, 1) := by decide +kernel
theorem dX4_take_28 : decode cX4_take 28 = .ok (.invokestatic 42, 3) := by decide +kernel
theorem dX4_take_31 : decode cX4_take 31 = .ok (.istore 5, 2) := by decide +kernel
theorem dX4_take_33 : decode cX4_take 33 = .ok (.aload_n 0, 1) := by decide +kernel
theorem dX4_take_34 : decode cX4_take 34 = .ok (.iload 4, 2) := by decide +kernel
theorem dX4_take_36 : decode cX4_take 36 = .ok (.iload 5, 2) := by decide +kernel
theorem dX4_take_38 : decode cX4_take 38 = .ok (.invokevirtual 48, 3) := by decide +kernel
theorem dX4_take_41 : decode cX4_take 41 = .ok (.iload_n 2, 1) := by decide +kernel
theorem dX4_take_42 : decode cX4_take 42 = .ok (.iload 5, 2) := by decide +kernel
theorem dX4_take_44 : decode cX4_take 44 = .ok (.isub, 1) := by decide +kernel
theorem dX4_take_45 : decode cX4_take 45 = .ok (.istore_n 2, 1) := by decide +kernel
theorem dX4_take_46 : decode cX4_take 46 = .ok (.aload_n 0, 1) := by decide +kernel
theorem dX4_take_47 : decode cX4_take 47 = .ok (.getfield 18, 3) := by decide +kernel
theorem dX4_take_50 : decode cX4_take 50 = .ok (.iload 4, 2) := by decide +kernel
theorem dX4_take_52 : decode cX4_take 52 = .ok (.iaload, 1) := by decide +kernel
theorem dX4_take_53 : decode cX4_take 53 = .ok (.ifCond .ne 23, 3) := by decide +kernel
theorem dX4_take_56 : decode cX4_take 56 = .ok (.aload_n 0, 1) := by decide +kernel
theorem dX4_take_57 : decode cX4_take 57 = .ok (.dup, 1) := by decide +kernel
theorem dX4_take_58 : decode cX4_take 58 = .ok (.getfield 34, 3) := by decide +kernel
theorem dX4_take_61 : decode cX4_take 61 = .ok (.aload_n 0, 1) := by decide +kernel
theorem dX4_take_62 : decode cX4_take 62 = .ok (.getfield 15, 3) := by decide +kernel
theorem dX4_take_65 : decode cX4_take 65 = .ok (.iload 4, 2) := by decide +kernel
theorem dX4_take_67 : decode cX4_take 67 = .ok (.iaload, 1) := by decide +kernel
theorem dX4_take_68 : decode cX4_take 68 = .ok (.i2l, 1) := by decide +kernel
theorem dX4_take_69 : decode cX4_take 69 = .ok (.ladd, 1) := by decide +kernel
theorem dX4_take_70 : decode cX4_take 70 = .ok (.putfield 34, 3) := by decide +kernel
theorem dX4_take_73 : decode cX4_take 73 = .ok (.iinc 3 1, 3) := by decide +kernel
theorem dX4_take_76 : decode cX4_take 76 = .ok (.iinc 4 1, 3) := by decide +kernel
theorem dX4_take_79 : decode cX4_take 79 = .ok (.goto (-72), 3) := by decide +kernel
theorem dX4_take_82 : decode cX4_take 82 = .ok (.aload_n 0, 1) := by decide +kernel
theorem dX4_take_83 : decode cX4_take 83 = .ok (.iconst 0, 1) := by decide +kernel
theorem dX4_take_84 : decode cX4_take 84 = .ok (.iload_n 3, 1) := by decide +kernel
theorem dX4_take_85 : decode cX4_take 85 = .ok (.invokevirtual 52, 3) := by decide +kernel
theorem dX4_take_88 : decode cX4_take 88 = .ok (.return_, 1) := by decide +kernel
theorem dX4_pilfer_0 : decode cX4_pilfer 0 = .ok (.iload_n 1, 1) := by decide +kernel
theorem dX4_pilfer_1 : decode cX4_pilfer 1 = .ok (.istore_n 2, 1) := by decide +kernel
theorem dX4_pilfer_2 : decode cX4_pilfer 2 = .ok (.iconst 0, 1) := by decide +kernel
theorem dX4_pilfer_3 : decode cX4_pilfer 3 = .ok (.istore_n 3, 1) := by decide +kernel
theorem dX4_pilfer_4 : decode cX4_pilfer 4 = .ok (.iload_n 3, 1) := by decide +kernel
theorem dX4_pilfer_5 : decode cX4_pilfer 5 = .ok (.aload_n 0, 1) := by decide +kernel
theorem dX4_pilfer_6 : decode cX4_pilfer 6 = .ok (.getfield 31, 3) := by decide +kernel
theorem dX4_pilfer_9 : decode cX4_pilfer 9 = .ok (.if_icmp .ge 64, 3) := by decide +kernel
theorem dX4_pilfer_12 : decode cX4_pilfer 12 = .ok (.iload_n 2, 1) := by decide +kernel
theorem dX4_pilfer_13 : decode cX4_pilfer 13 = .ok (.ifCond .le 60, 3) := by decide +kernel
theorem dX4_pilfer_16 : decode cX4_pilfer 16 = .ok (.iload_n 2, 1) := by decide +kernel
theorem dX4_pilfer_17 : decode cX4_pilfer 17 = .ok (.aload_n 0, 1) := by decide +kernel
theorem dX4_pilfer_18 : decode cX4_pilfer 18 = .ok (.getfield 18, 3) := by decide +kernel
theorem dX4_pilfer_21 : decode cX4_pilfer 21 = .ok (.iload_n 3, 1) := by decide +kernel
theorem dX4_pilfer_22 : decode cX4_pilfer 22 = .ok (.iaload, 1) := by decide +kernel
theorem dX4_pilfer_23 : decode cX4_pilfer 23 = .ok (.invokestatic 42, 3) := by decide +kernel
theorem dX4_pilfer_26 : decode cX4_pilfer 26 = .ok (.istore 4, 2) := by decide +kernel
theorem dX4_pilfer_28 : decode cX4_pilfer 28 = .ok (.iload 4, 2) := by decide +kernel
theorem dX4_pilfer_30 : decode cX4_pilfer 30 = .ok (.ifCond .le 37, 3) := by decide +kernel
theorem dX4_pilfer_33 : decode cX4_pilfer 33 = .ok (.aload_n 0, 1) := by decide +kernel
theorem dX4_pilfer_34 : decode cX4_pilfer 34 = .ok (.getfield 18, 3) := by decide +kernel
theorem dX4_pilfer_37 : decode cX4_pilfer 37 = .ok (.iload_n 3, 1) := by decide +kernel
theorem dX4_pilfer_38 : decode cX4_pilfer 38 = .ok (.dup2, 1) := by decide +kernel
theorem dX4_pilfer_39 : decode cX4_pilfer 39 = .ok (.iaload, 1) := by decide +kernel
theorem dX4_pilfer_40 : decode cX4_pilfer 40 = .ok (.iload 4, 2) := by decide +kernel
theorem dX4_pilfer_42 : decode cX4_pilfer 42 = .ok (.isub, 1) := by decide +kernel
theorem dX4_pilfer_43 : decode cX4_pilfer 43 = .ok (.iastore, 1) := by decide +kernel
theorem dX4_pilfer_44 : decode cX4_pilfer 44 = .ok (.aload_n 0, 1) := by decide +kernel
theorem dX4_pilfer_45 : decode cX4_pilfer 45 = .ok (.dup, 1) := by decide +kernel
theorem dX4_pilfer_46 : decode cX4_pilfer 46 = .ok (.getfield 28, 3) := by decide +kernel
theorem dX4_pilfer_49 : decode cX4_pilfer 49 = .ok (.iload 4, 2) := by decide +kernel
theorem dX4_pilfer_51 : decode cX4_pilfer 51 = .ok (.isub, 1) := by decide +kernel
theorem dX4_pilfer_52 : decode cX4_pilfer 52 = .ok (.putfield 28, 3) := by decide +kernel
theorem dX4_pilfer_55 : decode cX4_pilfer 55 = .ok (.iload_n 2, 1) := by decide +kernel
theorem dX4_pilfer_56 : decode cX4_pilfer 56 = .ok (.iload 4, 2) := by decide +kernel
theorem dX4_pilfer_58 : decode cX4_pilfer 58 = .ok (.isub, 1) := by decide +kernel
theorem dX4_pilfer_59 : decode cX4_pilfer 59 = .ok (.istore_n 2, 1) := by decide +kernel
theorem dX4_pilfer_60 : decode cX4_pilfer 60 = .ok (.aload_n 0, 1) := by decide +kernel
theorem dX4_pilfer_61 : decode cX4_pilfer 61 = .ok (.getfield 21, 3) := by decide +kernel
theorem dX4_pilfer_64 : decode cX4_pilfer 64 = .ok (.iload_n 3, 1) := by decide +kernel
theorem dX4_pilfer_65 : decode cX4_pilfer 65 = .ok (.iconst 0, 1) := by decide +kernel
theorem dX4_pilfer_66 : decode cX4_pilfer 66 = .ok (.iastore, 1) := by decide +kernel
theorem dX4_pilfer_67 : decode cX4_pilfer 67 = .ok (.iinc 3 1, 3) := by decide +kernel
theorem dX4_pilfer_70 : decode cX4_pilfer 70 = .ok (.goto (-66), 3) := by decide +kernel
theorem dX4_pilfer_73 : decode cX4_pilfer 73 = .ok (.return_, 1) := by decide +kernel
theorem dX4_audit_0 : decode cX4_audit 0 = .ok (.aload_n 0, 1) := by decide +kernel
theorem dX4_audit_1 : decode cX4_audit 1 = .ok (.iload_n 1, 1) := by decide +kernel
theorem dX4_audit_2 : decode cX4_audit 2 = .ok (.invokevirtual 38, 3) := by decide +kernel
theorem dX4_audit_5 : decode cX4_audit 5 = .ok (.ifCond .ne 5, 3) := by decide +kernel
theorem dX4_audit_8 : decode cX4_audit 8 = .ok (.iconst (-1), 1) := by decide +kernel
theorem dX4_audit_9 : decode cX4_audit 9 = .ok (.ireturn, 1) := by decide +kernel
theorem dX4_audit_10 : decode cX4_audit 10 = .ok (.aload_n 0, 1) := by decide +kernel
theorem dX4_audit_11 : decode cX4_audit 11 = .ok (.getfield 15, 3) := by decide +kernel
theorem dX4_audit_14 : decode cX4_audit 14 = .ok (.iload_n 1, 1) := by decide +kernel
theorem dX4_audit_15 : decode cX4_audit 15 = .ok (.iaload, 1) := by decide +kernel
theorem dX4_audit_16 : decode cX4_audit 16 = .ok (.aload_n 0, 1) := by decide +kernel
theorem dX4_audit_17 : decode cX4_audit 17 = .ok (.getfield 18, 3) := by decide +kernel
theorem dX4_audit_20 : decode cX4_audit 20 = .ok (.iload_n 1, 1) := by decide +kernel
theorem dX4_audit_21 : decode cX4_audit 21 = .ok (.iaload, 1) := by decide +kernel
theorem dX4_audit_22 : decode cX4_audit 22 = .ok (.isub, 1) := by decide +kernel
theorem dX4_audit_23 : decode cX4_audit 23 = .ok (.istore_n 2, 1) := by decide +kernel
theorem dX4_audit_24 : decode cX4_audit 24 = .ok (.aload_n 0, 1) := by decide +kernel
theorem dX4_audit_25 : decode cX4_audit 25 = .ok (.dup, 1) := by decide +kernel
theorem dX4_audit_26 : decode cX4_audit 26 = .ok (.getfield 34, 3) := by decide +kernel
theorem dX4_audit_29 : decode cX4_audit 29 = .ok (.iload_n 2, 1) := by decide +kernel
theorem dX4_audit_30 : decode cX4_audit 30 = .ok (.i2l, 1) := by decide +kernel
theorem dX4_audit_31 : decode cX4_audit 31 = .ok (.ladd, 1) := by decide +kernel
theorem dX4_audit_32 : decode cX4_audit 32 = .ok (.putfield 34, 3) := by decide +kernel
theorem dX4_audit_35 : decode cX4_audit 35 = .ok (.aload_n 0, 1) := by decide +kernel
theorem dX4_audit_36 : decode cX4_audit 36 = .ok (.getfield 15, 3) := by decide +kernel
theorem dX4_audit_39 : decode cX4_audit 39 = .ok (.iload_n 1, 1) := by decide +kernel
theorem dX4_audit_40 : decode cX4_audit 40 = .ok (.aload_n 0, 1) := by decide +kernel
theorem dX4_audit_41 : decode cX4_audit 41 = .ok (.getfield 18, 3) := by decide +kernel
theorem dX4_audit_44 : decode cX4_audit 44 = .ok (.iload_n 1, 1) := by decide +kernel
theorem dX4_audit_45 : decode cX4_audit 45 = .ok (.iaload, 1) := by decide +kernel
theorem dX4_audit_46 : decode cX4_audit 46 = .ok (.iastore, 1) := by decide +kernel
theorem dX4_audit_47 : decode cX4_audit 47 = .ok (.aload_n 0, 1) := by decide +kernel
theorem dX4_audit_48 : decode cX4_audit 48 = .ok (.getfield 21, 3) := by decide +kernel
theorem dX4_audit_51 : decode cX4_audit 51 = .ok (.iload_n 1, 1) := by decide +kernel
theorem dX4_audit_52 : decode cX4_audit 52 = .ok (.iconst 1, 1) := by decide +kernel
theorem dX4_audit_53 : decode cX4_audit 53 = .ok (.iastore, 1) := by decide +kernel
theorem dX4_audit_54 : decode cX4_audit 54 = .ok (.aload_n 0, 1) := by decide +kernel
theorem dX4_audit_55 : decode cX4_audit 55 = .ok (.getfield 18, 3) := by decide +kernel
theorem dX4_audit_58 : decode cX4_audit 58 = .ok (.iload_n 1, 1) := by decide +kernel
theorem dX4_audit_59 : decode cX4_audit 59 = .ok (.iaload, 1) := by decide +kernel
theorem dX4_audit_60 : decode cX4_audit 60 = .ok (.ifCond .ne 9, 3) := by decide +kernel
theorem dX4_audit_63 : decode cX4_audit 63 = .ok (.aload_n 0, 1) := by decide +kernel
theorem dX4_audit_64 : decode cX4_audit 64 = .ok (.iload_n 1, 1) := by decide +kernel
theorem dX4_audit_65 : decode cX4_audit 65 = .ok (.iconst 1, 1) := by decide +kernel
theorem dX4_audit_66 : decode cX4_audit 66 = .ok (.invokevirtual 52, 3) := by decide +kernel
theorem dX4_audit_69 : decode cX4_audit 69 = .ok (.iload_n 2, 1) := by decide +kernel
theorem dX4_audit_70 : decode cX4_audit 70 = .ok (.ireturn, 1) := by decide +kernel
theorem dX4_spoil_0 : decode cX4_spoil 0 = .ok (.iconst 0, 1) := by decide +kernel
theorem dX4_spoil_1 : decode cX4_spoil 1 = .ok (.istore_n 3, 1) := by decide +kernel
theorem dX4_spoil_2 : decode cX4_spoil 2 = .ok (.iload_n 3, 1) := by decide +kernel
theorem dX4_spoil_3 : decode cX4_spoil 3 = .ok (.aload_n 0, 1) := by decide +kernel
theorem dX4_spoil_4 : decode cX4_spoil 4 = .ok (.getfield 31, 3) := by decide +kernel
theorem dX4_spoil_7 : decode cX4_spoil 7 = .ok (.if_icmp .ge 19, 3) := by decide +kernel
theorem dX4_spoil_10 : decode cX4_spoil 10 = .ok (.aload_n 0, 1) := by decide +kernel
theorem dX4_spoil_11 : decode cX4_spoil 11 = .ok (.getfield 11, 3) := by decide +kernel
theorem dX4_spoil_14 : decode cX4_spoil 14 = .ok (.iload_n 3, 1) := by decide +kernel
theorem dX4_spoil_15 : decode cX4_spoil 15 = .ok (.iaload, 1) := by decide +kernel
theorem dX4_spoil_16 : decode cX4_spoil 16 = .ok (.iload_n 1, 1) := by decide +kernel
theorem dX4_spoil_17 : decode cX4_spoil 17 = .ok (.if_icmp .gt 9, 3) := by decide +kernel
theorem dX4_spoil_20 : decode cX4_spoil 20 = .ok (.iinc 3 1, 3) := by decide +kernel
theorem dX4_spoil_23 : decode cX4_spoil 23 = .ok (.goto (-21), 3) := by decide +kernel
theorem dX4_spoil_26 : decode cX4_spoil 26 = .ok (.lconst 0, 1) := by decide +kernel
theorem dX4_spoil_27 : decode cX4_spoil 27 = .ok (.lstore 4, 2) := by decide +kernel
theorem dX4_spoil_29 : decode cX4_spoil 29 = .ok (.iload_n 3, 1) := by decide +kernel
theorem dX4_spoil_30 : decode cX4_spoil 30 = .ok (.iconst 1, 1) := by decide +kernel
theorem dX4_spoil_31 : decode cX4_spoil 31 = .ok (.isub, 1) := by decide +kernel
theorem dX4_spoil_32 : decode cX4_spoil 32 = .ok (.istore 6, 2) := by decide +kernel
theorem dX4_spoil_34 : decode cX4_spoil 34 = .ok (.iload 6, 2) := by decide +kernel
theorem dX4_spoil_36 : decode cX4_spoil 36 = .ok (.ifCond .lt 76, 3) := by decide +kernel
theorem dX4_spoil_39 : decode cX4_spoil 39 = .ok (.aload_n 0, 1) := by decide +kernel
theorem dX4_spoil_40 : decode cX4_spoil 40 = .ok (.getfield 18, 3) := by decide +kernel
theorem dX4_spoil_43 : decode cX4_spoil 43 = .ok (.iload 6, 2) := by decide +kernel
theorem dX4_spoil_45 : decode cX4_spoil 45 = .ok (.iaload, 1) := by decide +kernel
theorem dX4_spoil_46 : decode cX4_spoil 46 = .ok (.iload_n 2, 1) := by decide +kernel
theorem dX4_spoil_47 : decode cX4_spoil 47 = .ok (.imul, 1) := by decide +kernel
theorem dX4_spoil_48 : decode cX4_spoil 48 = .ok (.bipush 99, 2) := by decide +kernel
theorem dX4_spoil_50 : decode cX4_spoil 50 = .ok (.iadd, 1) := by decide +kernel
theorem dX4_spoil_51 : decode cX4_spoil 51 = .ok (.bipush 100, 2) := by decide +kernel
theorem dX4_spoil_53 : decode cX4_spoil 53 = .ok (.idiv, 1) := by decide +kernel
theorem dX4_spoil_54 : decode cX4_spoil 54 = .ok (.istore 7, 2) := by decide +kernel
theorem dX4_spoil_56 : decode cX4_spoil 56 = .ok (.aload_n 0, 1) := by decide +kernel
theorem dX4_spoil_57 : decode cX4_spoil 57 = .ok (.iload 6, 2) := by decide +kernel
theorem dX4_spoil_59 : decode cX4_spoil 59 = .ok (.iload 7, 2) := by decide +kernel
theorem dX4_spoil_61 : decode cX4_spoil 61 = .ok (.invokevirtual 48, 3) := by decide +kernel
theorem dX4_spoil_64 : decode cX4_spoil 64 = .ok (.lload 4, 2) := by decide +kernel
theorem dX4_spoil_66 : decode cX4_spoil 66 = .ok (.iload 7, 2) := by decide +kernel
theorem dX4_spoil_68 : decode cX4_spoil 68 = .ok (.i2l, 1) := by decide +kernel
theorem dX4_spoil_69 : decode cX4_spoil 69 = .ok (.ladd, 1) := by decide +kernel
theorem dX4_spoil_70 : decode cX4_spoil 70 = .ok (.lstore 4, 2) := by decide +kernel
theorem dX4_spoil_72 : decode cX4_spoil 72 = .ok (.aload_n 0, 1) := by decide +kernel
theorem dX4_spoil_73 : decode cX4_spoil 73 = .ok (.getfield 18, 3) := by decide +kernel
theorem dX4_spoil_76 : decode cX4_spoil 76 = .ok (.iload 6, 2) := by decide +kernel
theorem dX4_spoil_78 : decode cX4_spoil 78 = .ok (.iaload, 1) := by decide +kernel
theorem dX4_spoil_79 : decode cX4_spoil 79 = .ok (.ifCond .ne 27, 3) := by decide +kernel
theorem dX4_spoil_82 : decode cX4_spoil 82 = .ok (.aload_n 0, 1) := by decide +kernel
theorem dX4_spoil_83 : decode cX4_spoil 83 = .ok (.dup, 1) := by decide +kernel
theorem dX4_spoil_84 : decode cX4_spoil 84 = .ok (.getfield 34, 3) := by decide +kernel
theorem dX4_spoil_87 : decode cX4_spoil 87 = .ok (.aload_n 0, 1) := by decide +kernel
theorem dX4_spoil_88 : decode cX4_spoil 88 = .ok (.getfield 15, 3) := by decide +kernel
theorem dX4_spoil_91 : decode cX4_spoil 91 = .ok (.iload 6, 2) := by decide +kernel
theorem dX4_spoil_93 : decode cX4_spoil 93 = .ok (.iaload, 1) := by decide +kernel
theorem dX4_spoil_94 : decode cX4_spoil 94 = .ok (.i2l, 1) := by decide +kernel
theorem dX4_spoil_95 : decode cX4_spoil 95 = .ok (.ladd, 1) := by decide +kernel
theorem dX4_spoil_96 : decode cX4_spoil 96 = .ok (.putfield 34, 3) := by decide +kernel
theorem dX4_spoil_99 : decode cX4_spoil 99 = .ok (.aload_n 0, 1) := by decide +kernel
theorem dX4_spoil_100 : decode cX4_spoil 100 = .ok (.iload 6, 2) := by decide +kernel
theorem dX4_spoil_102 : decode cX4_spoil 102 = .ok (.iconst 1, 1) := by decide +kernel
theorem dX4_spoil_103 : decode cX4_spoil 103 = .ok (.invokevirtual 52, 3) := by decide +kernel
theorem dX4_spoil_106 : decode cX4_spoil 106 = .ok (.iinc 6 (-1), 3) := by decide +kernel
theorem dX4_spoil_109 : decode cX4_spoil 109 = .ok (.goto (-75), 3) := by decide +kernel
theorem dX4_spoil_112 : decode cX4_spoil 112 = .ok (.lload 4, 2) := by decide +kernel
theorem dX4_spoil_114 : decode cX4_spoil 114 = .ok (.lreturn, 1) := by decide +kernel
theorem dX4_imitate_0 : decode cX4_imitate 0 = .ok (.aload_n 0, 1) := by decide +kernel
theorem dX4_imitate_1 : decode cX4_imitate 1 = .ok (.aload_n 1, 1) := by decide +kernel
theorem dX4_imitate_2 : decode cX4_imitate 2 = .ok (.getfield 31, 3) := by decide +kernel
theorem dX4_imitate_5 : decode cX4_imitate 5 = .ok (.putfield 31, 3) := by decide +kernel
theorem dX4_imitate_8 : decode cX4_imitate 8 = .ok (.aload_n 0, 1) := by decide +kernel
theorem dX4_imitate_9 : decode cX4_imitate 9 = .ok (.aload_n 1, 1) := by decide +kernel
theorem dX4_imitate_10 : decode cX4_imitate 10 = .ok (.getfield 24, 3) := by decide +kernel
theorem dX4_imitate_13 : decode cX4_imitate 13 = .ok (.putfield 24, 3) := by decide +kernel
theorem dX4_imitate_16 : decode cX4_imitate 16 = .ok (.aload_n 0, 1) := by decide +kernel
theorem dX4_imitate_17 : decode cX4_imitate 17 = .ok (.aload_n 1, 1) := by decide +kernel
theorem dX4_imitate_18 : decode cX4_imitate 18 = .ok (.getfield 28, 3) := by decide +kernel
theorem dX4_imitate_21 : decode cX4_imitate 21 = .ok (.putfield 28, 3) := by decide +kernel
theorem dX4_imitate_24 : decode cX4_imitate 24 = .ok (.aload_n 0, 1) := by decide +kernel
theorem dX4_imitate_25 : decode cX4_imitate 25 = .ok (.aload_n 1, 1) := by decide +kernel
theorem dX4_imitate_26 : decode cX4_imitate 26 = .ok (.getfield 34, 3) := by decide +kernel
theorem dX4_imitate_29 : decode cX4_imitate 29 = .ok (.putfield 34, 3) := by decide +kernel
theorem dX4_imitate_32 : decode cX4_imitate 32 = .ok (.aload_n 1, 1) := by decide +kernel
theorem dX4_imitate_33 : decode cX4_imitate 33 = .ok (.getfield 11, 3) := by decide +kernel
theorem dX4_imitate_36 : decode cX4_imitate 36 = .ok (.iconst 0, 1) := by decide +kernel
theorem dX4_imitate_37 : decode cX4_imitate 37 = .ok (.aload_n 0, 1) := by decide +kernel
theorem dX4_imitate_38 : decode cX4_imitate 38 = .ok (.getfield 11, 3) := by decide +kernel
theorem dX4_imitate_41 : decode cX4_imitate 41 = .ok (.iconst 0, 1) := by decide +kernel
theorem dX4_imitate_42 : decode cX4_imitate 42 = .ok (.aload_n 0, 1) := by decide +kernel
theorem dX4_imitate_43 : decode cX4_imitate 43 = .ok (.getfield 31, 3) := by decide +kernel
theorem dX4_imitate_46 : decode cX4_imitate 46 = .ok (.invokestatic 55, 3) := by decide +kernel
theorem dX4_imitate_49 : decode cX4_imitate 49 = .ok (.aload_n 1, 1) := by decide +kernel
theorem dX4_imitate_50 : decode cX4_imitate 50 = .ok (.getfield 15, 3) := by decide +kernel
theorem dX4_imitate_53 : decode cX4_imitate 53 = .ok (.iconst 0, 1) := by decide +kernel
theorem dX4_imitate_54 : decode cX4_imitate 54 = .ok (.aload_n 0, 1) := by decide +kernel
theorem dX4_imitate_55 : decode cX4_imitate 55 = .ok (.getfield 15, 3) := by decide +kernel
theorem dX4_imitate_58 : decode cX4_imitate 58 = .ok (.iconst 0, 1) := by decide +kernel
theorem dX4_imitate_59 : decode cX4_imitate 59 = .ok (.aload_n 0, 1) := by decide +kernel
theorem dX4_imitate_60 : decode cX4_imitate 60 = .ok (.getfield 31, 3) := by decide +kernel
theorem dX4_imitate_63 : decode cX4_imitate 63 = .ok (.invokestatic 55, 3) := by decide +kernel
theorem dX4_imitate_66 : decode cX4_imitate 66 = .ok (.aload_n 1, 1) := by decide +kernel
theorem dX4_imitate_67 : decode cX4_imitate 67 = .ok (.getfield 18, 3) := by decide +kernel
theorem dX4_imitate_70 : decode cX4_imitate 70 = .ok (.iconst 0, 1) := by decide +kernel
theorem dX4_imitate_71 : decode cX4_imitate 71 = .ok (.aload_n 0, 1) := by decide +kernel
theorem dX4_imitate_72 : decode cX4_imitate 72 = .ok (.getfield 18, 3) := by decide +kernel
theorem dX4_imitate_75 : decode cX4_imitate 75 = .ok (.iconst 0, 1) := by decide +kernel
theorem dX4_imitate_76 : decode cX4_imitate 76 = .ok (.aload_n 0, 1) := by decide +kernel
theorem dX4_imitate_77 : decode cX4_imitate 77 = .ok (.getfield 31, 3) := by decide +kernel
theorem dX4_imitate_80 : decode cX4_imitate 80 = .ok (.invokestatic 55, 3) := by decide +kernel
theorem dX4_imitate_83 : decode cX4_imitate 83 = .ok (.aload_n 1, 1) := by decide +kernel
theorem dX4_imitate_84 : decode cX4_imitate 84 = .ok (.getfield 21, 3) := by decide +kernel
theorem dX4_imitate_87 : decode cX4_imitate 87 = .ok (.iconst 0, 1) := by decide +kernel
theorem dX4_imitate_88 : decode cX4_imitate 88 = .ok (.aload_n 0, 1) := by decide +kernel
theorem dX4_imitate_89 : decode cX4_imitate 89 = .ok (.getfield 21, 3) := by decide +kernel
theorem dX4_imitate_92 : decode cX4_imitate 92 = .ok (.iconst 0, 1) := by decide +kernel
theorem dX4_imitate_93 : decode cX4_imitate 93 = .ok (.aload_n 0, 1) := by decide +kernel
theorem dX4_imitate_94 : decode cX4_imitate 94 = .ok (.getfield 31, 3) := by decide +kernel
theorem dX4_imitate_97 : decode cX4_imitate 97 = .ok (.invokestatic 55, 3) := by decide +kernel
theorem dX4_imitate_100 : decode cX4_imitate 100 = .ok (.return_, 1) := by decide +kernel
theorem dX4_lessen_0 : decode cX4_lessen 0 = .ok (.aload_n 0, 1) := by decide +kernel
theorem dX4_lessen_1 : decode cX4_lessen 1 = .ok (.iload_n 1, 1) := by decide +kernel
theorem dX4_lessen_2 : decode cX4_lessen 2 = .ok (.invokevirtual 38, 3) := by decide +kernel
theorem dX4_lessen_5 : decode cX4_lessen 5 = .ok (.ifCond .eq 33, 3) := by decide +kernel
theorem dX4_lessen_8 : decode cX4_lessen 8 = .ok (.aload_n 0, 1) := by decide +kernel
theorem dX4_lessen_9 : decode cX4_lessen 9 = .ok (.getfield 15, 3) := by decide +kernel
theorem dX4_lessen_12 : decode cX4_lessen 12 = .ok (.iload_n 1, 1) := by decide +kernel
theorem dX4_lessen_13 : decode cX4_lessen 13 = .ok (.dup2, 1) := by decide +kernel
theorem dX4_lessen_14 : decode cX4_lessen 14 = .ok (.iaload, 1) := by decide +kernel
theorem dX4_lessen_15 : decode cX4_lessen 15 = .ok (.iload_n 2, 1) := by decide +kernel
theorem dX4_lessen_16 : decode cX4_lessen 16 = .ok (.isub, 1) := by decide +kernel
theorem dX4_lessen_17 : decode cX4_lessen 17 = .ok (.iastore, 1) := by decide +kernel
theorem dX4_lessen_18 : decode cX4_lessen 18 = .ok (.aload_n 0, 1) := by decide +kernel
theorem dX4_lessen_19 : decode cX4_lessen 19 = .ok (.getfield 18, 3) := by decide +kernel
theorem dX4_lessen_22 : decode cX4_lessen 22 = .ok (.iload_n 1, 1) := by decide +kernel
theorem dX4_lessen_23 : decode cX4_lessen 23 = .ok (.dup2, 1) := by decide +kernel
theorem dX4_lessen_24 : decode cX4_lessen 24 = .ok (.iaload, 1) := by decide +kernel
theorem dX4_lessen_25 : decode cX4_lessen 25 = .ok (.iload_n 2, 1) := by decide +kernel
theorem dX4_lessen_26 : decode cX4_lessen 26 = .ok (.isub, 1) := by decide +kernel
theorem dX4_lessen_27 : decode cX4_lessen 27 = .ok (.iastore, 1) := by decide +kernel
theorem dX4_lessen_28 : decode cX4_lessen 28 = .ok (.aload_n 0, 1) := by decide +kernel
theorem dX4_lessen_29 : decode cX4_lessen 29 = .ok (.dup, 1) := by decide +kernel
theorem dX4_lessen_30 : decode cX4_lessen 30 = .ok (.getfield 28, 3) := by decide +kernel
theorem dX4_lessen_33 : decode cX4_lessen 33 = .ok (.iload_n 2, 1) := by decide +kernel
theorem dX4_lessen_34 : decode cX4_lessen 34 = .ok (.isub, 1) := by decide +kernel
theorem dX4_lessen_35 : decode cX4_lessen 35 = .ok (.putfield 28, 3) := by decide +kernel
theorem dX4_lessen_38 : decode cX4_lessen 38 = .ok (.return_, 1) := by decide +kernel
theorem dX4_cut_0 : decode cX4_cut 0 = .ok (.aload_n 0, 1) := by decide +kernel
theorem dX4_cut_1 : decode cX4_cut 1 = .ok (.getfield 31, 3) := by decide +kernel
theorem dX4_cut_4 : decode cX4_cut 4 = .ok (.iload_n 1, 1) := by decide +kernel
theorem dX4_cut_5 : decode cX4_cut 5 = .ok (.isub, 1) := by decide +kernel
theorem dX4_cut_6 : decode cX4_cut 6 = .ok (.iload_n 2, 1) := by decide +kernel
theorem dX4_cut_7 : decode cX4_cut 7 = .ok (.isub, 1) := by decide +kernel
theorem dX4_cut_8 : decode cX4_cut 8 = .ok (.istore_n 3, 1) := by decide +kernel
theorem dX4_cut_9 : decode cX4_cut 9 = .ok (.iload_n 1, 1) := by decide +kernel
theorem dX4_cut_10 : decode cX4_cut 10 = .ok (.ifCond .lt 11, 3) := by decide +kernel
theorem dX4_cut_13 : decode cX4_cut 13 = .ok (.iload_n 2, 1) := by decide +kernel
theorem dX4_cut_14 : decode cX4_cut 14 = .ok (.ifCond .le 7, 3) := by decide +kernel
theorem dX4_cut_17 : decode cX4_cut 17 = .ok (.iload_n 3, 1) := by decide +kernel
theorem dX4_cut_18 : decode cX4_cut 18 = .ok (.ifCond .ge 4, 3) := by decide +kernel
theorem dX4_cut_21 : decode cX4_cut 21 = .ok (.return_, 1) := by decide +kernel
theorem dX4_cut_22 : decode cX4_cut 22 = .ok (.aload_n 0, 1) := by decide +kernel
theorem dX4_cut_23 : decode cX4_cut 23 = .ok (.getfield 11, 3) := by decide +kernel
theorem dX4_cut_26 : decode cX4_cut 26 = .ok (.iload_n 1, 1) := by decide +kernel
theorem dX4_cut_27 : decode cX4_cut 27 = .ok (.iload_n 2, 1) := by decide +kernel
theorem dX4_cut_28 : decode cX4_cut 28 = .ok (.iadd, 1) := by decide +kernel
theorem dX4_cut_29 : decode cX4_cut 29 = .ok (.aload_n 0, 1) := by decide +kernel
theorem dX4_cut_30 : decode cX4_cut 30 = .ok (.getfield 11, 3) := by decide +kernel
theorem dX4_cut_33 : decode cX4_cut 33 = .ok (.iload_n 1, 1) := by decide +kernel
theorem dX4_cut_34 : decode cX4_cut 34 = .ok (.iload_n 3, 1) := by decide +kernel
theorem dX4_cut_35 : decode cX4_cut 35 = .ok (.invokestatic 55, 3) := by decide +kernel
theorem dX4_cut_38 : decode cX4_cut 38 = .ok (.aload_n 0, 1) := by decide +kernel
theorem dX4_cut_39 : decode cX4_cut 39 = .ok (.getfield 15, 3) := by decide +kernel
theorem dX4_cut_42 : decode cX4_cut 42 = .ok (.iload_n 1, 1) := by decide +kernel
theorem dX4_cut_43 : decode cX4_cut 43 = .ok (.iload_n 2, 1) := by decide +kernel
theorem dX4_cut_44 : decode cX4_cut 44 = .ok (.iadd, 1) := by decide +kernel
theorem dX4_cut_45 : decode cX4_cut 45 = .ok (.aload_n 0, 1) := by decide +kernel
theorem dX4_cut_46 : decode cX4_cut 46 = .ok (.getfield 15, 3) := by decide +kernel
theorem dX4_cut_49 : decode cX4_cut 49 = .ok (.iload_n 1, 1) := by decide +kernel
theorem dX4_cut_50 : decode cX4_cut 50 = .ok (.iload_n 3, 1) := by decide +kernel
theorem dX4_cut_51 : decode cX4_cut 51 = .ok (.invokestatic 55, 3) := by decide +kernel
theorem dX4_cut_54 : decode cX4_cut 54 = .ok (.aload_n 0, 1) := by decide +kernel
theorem dX4_cut_55 : decode cX4_cut 55 = .ok (.getfield 18, 3) := by decide +kernel
theorem dX4_cut_58 : decode cX4_cut 58 = .ok (.iload_n 1, 1) := by decide +kernel
theorem dX4_cut_59 : decode cX4_cut 59 = .ok (.iload_n 2, 1) := by decide +kernel
theorem dX4_cut_60 : decode cX4_cut 60 = .ok (.iadd, 1) := by decide +kernel
theorem dX4_cut_61 : decode cX4_cut 61 = .ok (.aload_n 0, 1) := by decide +kernel
theorem dX4_cut_62 : decode cX4_cut 62 = .ok (.getfield 18, 3) := by decide +kernel
theorem dX4_cut_65 : decode cX4_cut 65 = .ok (.iload_n 1, 1) := by decide +kernel
theorem dX4_cut_66 : decode cX4_cut 66 = .ok (.iload_n 3, 1) := by decide +kernel
theorem dX4_cut_67 : decode cX4_cut 67 = .ok (.invokestatic 55, 3) := by decide +kernel
theorem dX4_cut_70 : decode cX4_cut 70 = .ok (.aload_n 0, 1) := by decide +kernel
theorem dX4_cut_71 : decode cX4_cut 71 = .ok (.getfield 21, 3) := by decide +kernel
theorem dX4_cut_74 : decode cX4_cut 74 = .ok (.iload_n 1, 1) := by decide +kernel
theorem dX4_cut_75 : decode cX4_cut 75 = .ok (.iload_n 2, 1) := by decide +kernel
theorem dX4_cut_76 : decode cX4_cut 76 = .ok (.iadd, 1) := by decide +kernel
theorem dX4_cut_77 : decode cX4_cut 77 = .ok (.aload_n 0, 1) := by decide +kernel
theorem dX4_cut_78 : decode cX4_cut 78 = .ok (.getfield 21, 3) := by decide +kernel
theorem dX4_cut_81 : decode cX4_cut 81 = .ok (.iload_n 1, 1) := by decide +kernel
theorem dX4_cut_82 : decode cX4_cut 82 = .ok (.iload_n 3, 1) := by decide +kernel
theorem dX4_cut_83 : decode cX4_cut 83 = .ok (.invokestatic 55, 3) := by decide +kernel
theorem dX4_cut_86 : decode cX4_cut 86 = .ok (.aload_n 0, 1) := by decide +kernel
theorem dX4_cut_87 : decode cX4_cut 87 = .ok (.dup, 1) := by decide +kernel
theorem dX4_cut_88 : decode cX4_cut 88 = .ok (.getfield 31, 3) := by decide +kernel
theorem dX4_cut_91 : decode cX4_cut 91 = .ok (.iload_n 2, 1) := by decide +kernel
theorem dX4_cut_92 : decode cX4_cut 92 = .ok (.isub, 1) := by decide +kernel
theorem dX4_cut_93 : decode cX4_cut 93 = .ok (.putfield 31, 3) := by decide +kernel
theorem dX4_cut_96 : decode cX4_cut 96 = .ok (.return_, 1) := by decide +kernel
theorem dX5_init_0 : decode cX5_init 0 = .ok (.aload_n 0, 1) := by decide +kernel
theorem dX5_init_1 : decode cX5_init 1 = .ok (.invokespecial 3, 3) := by decide +kernel
theorem dX5_init_4 : decode cX5_init 4 = .ok (.aload_n 0, 1) := by decide +kernel
theorem dX5_init_5 : decode cX5_init 5 = .ok (.bipush 60, 2) := by decide +kernel
theorem dX5_init_7 : decode cX5_init 7 = .ok (.newarray .int, 2) := by decide +kernel
theorem dX5_init_9 : decode cX5_init 9 = .ok (.putfield 11, 3) := by decide +kernel
theorem dX5_init_12 : decode cX5_init 12 = .ok (.return_, 1) := by decide +kernel
theorem dX5_length_0 : decode cX5_length 0 = .ok (.aload_n 0, 1) := by decide +kernel
theorem dX5_length_1 : decode cX5_length 1 = .ok (.getfield 15, 3) := by decide +kernel
theorem dX5_length_4 : decode cX5_length 4 = .ok (.ireturn, 1) := by decide +kernel
theorem dX5_hasRoomFor_0 : decode cX5_hasRoomFor 0 = .ok (.aload_n 0, 1) := by decide +kernel
theorem dX5_hasRoomFor_1 : decode cX5_hasRoomFor 1 = .ok (.getfield 15, 3) := by decide +kernel
theorem dX5_hasRoomFor_4 : decode cX5_hasRoomFor 4 = .ok (.iload_n 1, 1) := by decide +kernel
theorem dX5_hasRoomFor_5 : decode cX5_hasRoomFor 5 = .ok (.iadd, 1) := by decide +kernel
theorem dX5_hasRoomFor_6 : decode cX5_hasRoomFor 6 = .ok (.bipush 60, 2) := by decide +kernel
theorem dX5_hasRoomFor_8 : decode cX5_hasRoomFor 8 = .ok (.if_icmp .gt 7, 3) := by decide +kernel
theorem dX5_hasRoomFor_11 : decode cX5_hasRoomFor 11 = .ok (.iconst 1, 1) := by decide +kernel
theorem dX5_hasRoomFor_12 : decode cX5_hasRoomFor 12 = .ok (.goto 4, 3) := by decide +kernel
theorem dX5_hasRoomFor_15 : decode cX5_hasRoomFor 15 = .ok (.iconst 0, 1) := by decide +kernel
theorem dX5_hasRoomFor_16 : decode cX5_hasRoomFor 16 = .ok (.ireturn, 1) := by decide +kernel
theorem dX5_append_0 : decode cX5_append 0 = .ok (.bipush 24, 2) := by decide +kernel
theorem dX5_append_2 : decode cX5_append 2 = .ok (.istore_n 2, 1) := by decide +kernel
theorem dX5_append_3 : decode cX5_append 3 = .ok (.iload_n 2, 1) := by decide +kernel
theorem dX5_append_4 : decode cX5_append 4 = .ok (.ifCond .lt 44, 3) := by decide +kernel
theorem dX5_append_7 : decode cX5_append 7 = .ok (.aload_n 0, 1) := by decide +kernel
theorem dX5_append_8 : decode cX5_append 8 = .ok (.getfield 15, 3) := by decide +kernel
theorem dX5_append_11 : decode cX5_append 11 = .ok (.bipush 60, 2) := by decide +kernel
theorem dX5_append_13 : decode cX5_append 13 = .ok (.if_icmp .ge 29, 3) := by decide +kernel
theorem dX5_append_16 : decode cX5_append 16 = .ok (.aload_n 0, 1) := by decide +kernel
theorem dX5_append_17 : decode cX5_append 17 = .ok (.getfield 11, 3) := by decide +kernel
theorem dX5_append_20 : decode cX5_append 20 = .ok (.aload_n 0, 1) := by decide +kernel
theorem dX5_append_21 : decode cX5_append 21 = .ok (.getfield 15, 3) := by decide +kernel
theorem dX5_append_24 : decode cX5_append 24 = .ok (.iload_n 1, 1) := by decide +kernel
theorem dX5_append_25 : decode cX5_append 25 = .ok (.iload_n 2, 1) := by decide +kernel
theorem dX5_append_26 : decode cX5_append 26 = .ok (.iushr, 1) := by decide +kernel
theorem dX5_append_27 : decode cX5_append 27 = .ok (.sipush 255, 3) := by decide +kernel
theorem dX5_append_30 : decode cX5_append 30 = .ok (.iand, 1) := by decide +kernel
theorem dX5_append_31 : decode cX5_append 31 = .ok (.iastore, 1) := by decide +kernel
theorem dX5_append_32 : decode cX5_append 32 = .ok (.aload_n 0, 1) := by decide +kernel
theorem dX5_append_33 : decode cX5_append 33 = .ok (.dup, 1) := by decide +kernel
theorem dX5_append_34 : decode cX5_append 34 = .ok (.getfield 15, 3) := by decide +kernel
theorem dX5_append_37 : decode cX5_append 37 = .ok (.iconst 1, 1) := by decide +kernel
theorem dX5_append_38 : decode cX5_append 38 = .ok (.iadd, 1) := by decide +kernel
theorem dX5_append_39 : decode cX5_append 39 = .ok (.putfield 15, 3) := by decide +kernel
theorem dX5_append_42 : decode cX5_append 42 = .ok (.iinc 2 (-8), 3) := by decide +kernel
theorem dX5_append_45 : decode cX5_append 45 = .ok (.goto (-42), 3) := by decide +kernel
theorem dX5_append_48 : decode cX5_append 48 = .ok (.return_, 1) := by decide +kernel
theorem dX5_byteAt_0 : decode cX5_byteAt 0 = .ok (.iload_n 1, 1) := by decide +kernel
theorem dX5_byteAt_1 : decode cX5_byteAt 1 = .ok (.ifCond .lt 11, 3) := by decide +kernel
theorem dX5_byteAt_4 : decode cX5_byteAt 4 = .ok (.iload_n 1, 1) := by decide +kernel
theorem dX5_byteAt_5 : decode cX5_byteAt 5 = .ok (.aload_n 0, 1) := by decide +kernel
theorem dX5_byteAt_6 : decode cX5_byteAt 6 = .ok (.getfield 15, 3) := by decide +kernel
theorem dX5_byteAt_9 : decode cX5_byteAt 9 = .ok (.if_icmp .lt 7, 3) := by decide +kernel
theorem dX5_byteAt_12 : decode cX5_byteAt 12 = .ok (.iconst (-1), 1) := by decide +kernel
theorem dX5_byteAt_13 : decode cX5_byteAt 13 = .ok (.goto 9, 3) := by decide +kernel
theorem dX5_byteAt_16 : decode cX5_byteAt 16 = .ok (.aload_n 0, 1) := by decide +kernel
theorem dX5_byteAt_17 : decode cX5_byteAt 17 = .ok (.getfield 11, 3) := by decide +kernel
theorem dX5_byteAt_20 : decode cX5_byteAt 20 = .ok (.iload_n 1, 1) := by decide +kernel
theorem dX5_byteAt_21 : decode cX5_byteAt 21 = .ok (.iaload, 1) := by decide +kernel
theorem dX5_byteAt_22 : decode cX5_byteAt 22 = .ok (.ireturn, 1) := by decide +kernel
theorem dX5_wipe_0 : decode cX5_wipe 0 = .ok (.aload_n 0, 1) := by decide +kernel
theorem dX5_wipe_1 : decode cX5_wipe 1 = .ok (.iconst 0, 1) := by decide +kernel
theorem dX5_wipe_2 : decode cX5_wipe 2 = .ok (.putfield 15, 3) := by decide +kernel
theorem dX5_wipe_5 : decode cX5_wipe 5 = .ok (.return_, 1) := by decide +kernel
theorem dX6_init_0 : decode cX6_init 0 = .ok (.aload_n 0, 1) := by decide +kernel
theorem dX6_init_1 : decode cX6_init 1 = .ok (.invokespecial 1, 3) := by decide +kernel
theorem dX6_init_4 : decode cX6_init 4 = .ok (.aload_n 0, 1) := by decide +kernel
theorem dX6_init_5 : decode cX6_init 5 = .ok (.iload_n 1, 1) := by decide +kernel
theorem dX6_init_6 : decode cX6_init 6 = .ok (.putfield 7, 3) := by decide +kernel
theorem dX6_init_9 : decode cX6_init 9 = .ok (.aload_n 0, 1) := by decide +kernel
theorem dX6_init_10 : decode cX6_init 10 = .ok (.iload_n 2, 1) := by decide +kernel
theorem dX6_init_11 : decode cX6_init 11 = .ok (.i2l, 1) := by decide +kernel
theorem dX6_init_12 : decode cX6_init 12 = .ok (.putfield 13, 3) := by decide +kernel
theorem dX6_init_15 : decode cX6_init 15 = .ok (.aload_n 0, 1) := by decide +kernel
theorem dX6_init_16 : decode cX6_init 16 = .ok (.new 17, 3) := by decide +kernel
theorem dX6_init_19 : decode cX6_init 19 = .ok (.dup, 1) := by decide +kernel
theorem dX6_init_20 : decode cX6_init 20 = .ok (.iload_n 3, 1) := by decide +kernel
theorem dX6_init_21 : decode cX6_init 21 = .ok (.invokespecial 19, 3) := by decide +kernel
theorem dX6_init_24 : decode cX6_init 24 = .ok (.putfield 22, 3) := by decide +kernel
theorem dX6_init_27 : decode cX6_init 27 = .ok (.return_, 1) := by decide +kernel
theorem dX6_price_0 : decode cX6_price 0 = .ok (.aload_n 0, 1) := by decide +kernel
theorem dX6_price_1 : decode cX6_price 1 = .ok (.getfield 13, 3) := by decide +kernel
theorem dX6_price_4 : decode cX6_price 4 = .ok (.aload_n 0, 1) := by decide +kernel
theorem dX6_price_5 : decode cX6_price 5 = .ok (.getfield 7, 3) := by decide +kernel
theorem dX6_price_8 : decode cX6_price 8 = .ok (.i2l, 1) := by decide +kernel
theorem dX6_price_9 : decode cX6_price 9 = .ok (.ladd, 1) := by decide +kernel
theorem dX6_price_10 : decode cX6_price 10 = .ok (.lstore_n 1, 1) := by decide +kernel
theorem dX6_price_11 : decode cX6_price 11 = .ok (.lload_n 1, 1) := by decide +kernel
theorem dX6_price_12 : decode cX6_price 12 = .ok (.lconst 0, 1) := by decide +kernel
theorem dX6_price_13 : decode cX6_price 13 = .ok (.lcmp, 1) := by decide +kernel
theorem dX6_price_14 : decode cX6_price 14 = .ok (.ifCond .gt 7, 3) := by decide +kernel
theorem dX6_price_17 : decode cX6_price 17 = .ok (.iconst 0, 1) := by decide +kernel
theorem dX6_price_18 : decode cX6_price 18 = .ok (.goto 15, 3) := by decide +kernel
theorem dX6_price_21 : decode cX6_price 21 = .ok (.ldc2_w 26, 3) := by decide +kernel
theorem dX6_price_24 : decode cX6_price 24 = .ok (.aload_n 0, 1) := by decide +kernel
theorem dX6_price_25 : decode cX6_price 25 = .ok (.getfield 7, 3) := by decide +kernel
theorem dX6_price_28 : decode cX6_price 28 = .ok (.i2l, 1) := by decide +kernel
theorem dX6_price_29 : decode cX6_price 29 = .ok (.lmul, 1) := by decide +kernel
theorem dX6_price_30 : decode cX6_price 30 = .ok (.lload_n 1, 1) := by decide +kernel
theorem dX6_price_31 : decode cX6_price 31 = .ok (.ldiv, 1) := by decide +kernel
theorem dX6_price_32 : decode cX6_price 32 = .ok (.l2i, 1) := by decide +kernel
theorem dX6_price_33 : decode cX6_price 33 = .ok (.ireturn, 1) := by decide +kernel
theorem dX6_receive_0 : decode cX6_receive 0 = .ok (.iload_n 1, 1) := by decide +kernel
theorem dX6_receive_1 : decode cX6_receive 1 = .ok (.aload_n 0, 1) := by decide +kernel
theorem dX6_receive_2 : decode cX6_receive 2 = .ok (.getfield 22, 3) := by decide +kernel
theorem dX6_receive_5 : decode cX6_receive 5 = .ok (.invokevirtual 28, 3) := by decide +kernel
theorem dX6_receive_8 : decode cX6_receive 8 = .ok (.invokestatic 32, 3) := by decide +kernel
theorem dX6_receive_11 : decode cX6_receive 11 = .ok (.istore_n 3, 1) := by decide +kernel
theorem dX6_receive_12 : decode cX6_receive 12 = .ok (.aload_n 0, 1) := by decide +kernel
theorem dX6_receive_13 : decode cX6_receive 13 = .ok (.getfield 22, 3) := by decide +kernel
theorem dX6_receive_16 : decode cX6_receive 16 = .ok (.iload_n 3, 1) := by decide +kernel
theorem dX6_receive_17 : decode cX6_receive 17 = .ok (.iload_n 2, 1) := by decide +kernel
theorem dX6_receive_18 : decode cX6_receive 18 = .ok (.invokevirtual 38, 3) := by decide +kernel
theorem dX6_receive_21 : decode cX6_receive 21 = .ok (.aload_n 0, 1) := by decide +kernel
theorem dX6_receive_22 : decode cX6_receive 22 = .ok (.dup, 1) := by decide +kernel
theorem dX6_receive_23 : decode cX6_receive 23 = .ok (.getfield 13, 3) := by decide +kernel
theorem dX6_receive_26 : decode cX6_receive 26 = .ok (.iload_n 1, 1) := by decide +kernel
theorem dX6_receive_27 : decode cX6_receive 27 = .ok (.iload_n 3, 1) := by decide +kernel
theorem dX6_receive_28 : decode cX6_receive 28 = .ok (.isub, 1) := by decide +kernel
theorem dX6_receive_29 : decode cX6_receive 29 = .ok (.i2l, 1) := by decide +kernel
theorem dX6_receive_30 : decode cX6_receive 30 = .ok (.ladd, 1) := by decide +kernel
theorem dX6_receive_31 : decode cX6_receive 31 = .ok (.putfield 13, 3) := by decide +kernel
theorem dX6_receive_34 : decode cX6_receive 34 = .ok (.return_, 1) := by decide +kernel
theorem dX6_reap_0 : decode cX6_reap 0 = .ok (.aload_n 0, 1) := by decide +kernel
theorem dX6_reap_1 : decode cX6_reap 1 = .ok (.dup, 1) := by decide +kernel
theorem dX6_reap_2 : decode cX6_reap 2 = .ok (.getfield 13, 3) := by decide +kernel
theorem dX6_reap_5 : decode cX6_reap 5 = .ok (.aload_n 0, 1) := by decide +kernel
theorem dX6_reap_6 : decode cX6_reap 6 = .ok (.getfield 42, 3) := by decide +kernel
theorem dX6_reap_9 : decode cX6_reap 9 = .ok (.i2l, 1) := by decide +kernel
theorem dX6_reap_10 : decode cX6_reap 10 = .ok (.ladd, 1) := by decide +kernel
theorem dX6_reap_11 : decode cX6_reap 11 = .ok (.putfield 13, 3) := by decide +kernel
theorem dX6_reap_14 : decode cX6_reap 14 = .ok (.aload_n 0, 1) := by decide +kernel
theorem dX6_reap_15 : decode cX6_reap 15 = .ok (.iconst 0, 1) := by decide +kernel
theorem dX6_reap_16 : decode cX6_reap 16 = .ok (.putfield 42, 3) := by decide +kernel
theorem dX6_reap_19 : decode cX6_reap 19 = .ok (.return_, 1) := by decide +kernel
theorem dX6_payBack_0 : decode cX6_payBack 0 = .ok (.aload_n 0, 1) := by decide +kernel
theorem dX6_payBack_1 : decode cX6_payBack 1 = .ok (.getfield 45, 3) := by decide +kernel
theorem dX6_payBack_4 : decode cX6_payBack 4 = .ok (.aload_n 0, 1) := by decide +kernel
theorem dX6_payBack_5 : decode cX6_payBack 5 = .ok (.getfield 13, 3) := by decide +kernel
theorem dX6_payBack_8 : decode cX6_payBack 8 = .ok (.invokestatic 48, 3) := by decide +kernel
theorem dX6_payBack_11 : decode cX6_payBack 11 = .ok (.aload_n 0, 1) := by decide +kernel
theorem dX6_payBack_12 : decode cX6_payBack 12 = .ok (.getfield 22, 3) := by decide +kernel
theorem dX6_payBack_15 : decode cX6_payBack 15 = .ok (.invokevirtual 28, 3) := by decide +kernel
theorem dX6_payBack_18 : decode cX6_payBack 18 = .ok (.i2l, 1) := by decide +kernel
theorem dX6_payBack_19 : decode cX6_payBack 19 = .ok (.invokestatic 48, 3) := by decide +kernel
theorem dX6_payBack_22 : decode cX6_payBack 22 = .ok (.l2i, 1) := by decide +kernel
theorem dX6_payBack_23 : decode cX6_payBack 23 = .ok (.istore_n 2, 1) := by decide +kernel
theorem dX6_payBack_24 : decode cX6_payBack 24 = .ok (.aload_n 0, 1) := by decide +kernel
theorem dX6_payBack_25 : decode cX6_payBack 25 = .ok (.dup, 1) := by decide +kernel
theorem dX6_payBack_26 : decode cX6_payBack 26 = .ok (.getfield 13, 3) := by decide +kernel
theorem dX6_payBack_29 : decode cX6_payBack 29 = .ok (.iload_n 2, 1) := by decide +kernel
theorem dX6_payBack_30 : decode cX6_payBack 30 = .ok (.i2l, 1) := by decide +kernel
theorem dX6_payBack_31 : decode cX6_payBack 31 = .ok (.lsub, 1) := by decide +kernel
theorem dX6_payBack_32 : decode cX6_payBack 32 = .ok (.putfield 13, 3) := by decide +kernel
theorem dX6_payBack_35 : decode cX6_payBack 35 = .ok (.aload_n 0, 1) := by decide +kernel
theorem dX6_payBack_36 : decode cX6_payBack 36 = .ok (.dup, 1) := by decide +kernel
theorem dX6_payBack_37 : decode cX6_payBack 37 = .ok (.getfield 45, 3) := by decide +kernel
theorem dX6_payBack_40 : decode cX6_payBack 40 = .ok (.iload_n 2, 1) := by decide +kernel
theorem dX6_payBack_41 : decode cX6_payBack 41 = .ok (.i2l, 1) := by decide +kernel
theorem dX6_payBack_42 : decode cX6_payBack 42 = .ok (.lsub, 1) := by decide +kernel
theorem dX6_payBack_43 : decode cX6_payBack 43 = .ok (.putfield 45, 3) := by decide +kernel
theorem dX6_payBack_46 : decode cX6_payBack 46 = .ok (.aload_n 0, 1) := by decide +kernel
theorem dX6_payBack_47 : decode cX6_payBack 47 = .ok (.getfield 22, 3) := by decide +kernel
theorem dX6_payBack_50 : decode cX6_payBack 50 = .ok (.iload_n 2, 1) := by decide +kernel
theorem dX6_payBack_51 : decode cX6_payBack 51 = .ok (.iload_n 1, 1) := by decide +kernel
theorem dX6_payBack_52 : decode cX6_payBack 52 = .ok (.invokevirtual 38, 3) := by decide +kernel
theorem dX6_payBack_55 : decode cX6_payBack 55 = .ok (.return_, 1) := by decide +kernel
theorem dX6_buy_0 : decode cX6_buy 0 = .ok (.aload_n 0, 1) := by decide +kernel
theorem dX6_buy_1 : decode cX6_buy 1 = .ok (.dup, 1) := by decide +kernel
theorem dX6_buy_2 : decode cX6_buy 2 = .ok (.getfield 13, 3) := by decide +kernel
theorem dX6_buy_5 : decode cX6_buy 5 = .ok (.iload_n 1, 1) := by decide +kernel
theorem dX6_buy_6 : decode cX6_buy 6 = .ok (.i2l, 1) := by decide +kernel
theorem dX6_buy_7 : decode cX6_buy 7 = .ok (.lsub, 1) := by decide +kernel
theorem dX6_buy_8 : decode cX6_buy 8 = .ok (.putfield 13, 3) := by decide +kernel
theorem dX6_buy_11 : decode cX6_buy 11 = .ok (.aload_n 0, 1) := by decide +kernel
theorem dX6_buy_12 : decode cX6_buy 12 = .ok (.dup, 1) := by decide +kernel
theorem dX6_buy_13 : decode cX6_buy 13 = .ok (.getfield 51, 3) := by decide +kernel
theorem dX6_buy_16 : decode cX6_buy 16 = .ok (.iload_n 1, 1) := by decide +kernel
theorem dX6_buy_17 : decode cX6_buy 17 = .ok (.i2l, 1) := by decide +kernel
theorem dX6_buy_18 : decode cX6_buy 18 = .ok (.ladd, 1) := by decide +kernel
theorem dX6_buy_19 : decode cX6_buy 19 = .ok (.putfield 51, 3) := by decide +kernel
theorem dX6_buy_22 : decode cX6_buy 22 = .ok (.aload_n 0, 1) := by decide +kernel
theorem dX6_buy_23 : decode cX6_buy 23 = .ok (.getfield 22, 3) := by decide +kernel
theorem dX6_buy_26 : decode cX6_buy 26 = .ok (.iload_n 1, 1) := by decide +kernel
theorem dX6_buy_27 : decode cX6_buy 27 = .ok (.iload_n 2, 1) := by decide +kernel
theorem dX6_buy_28 : decode cX6_buy 28 = .ok (.invokevirtual 38, 3) := by decide +kernel
theorem dX6_buy_31 : decode cX6_buy 31 = .ok (.return_, 1) := by decide +kernel
theorem dX6_sell_0 : decode cX6_sell 0 = .ok (.aload_n 0, 1) := by decide +kernel
theorem dX6_sell_1 : decode cX6_sell 1 = .ok (.getfield 22, 3) := by decide +kernel
theorem dX6_sell_4 : decode cX6_sell 4 = .ok (.iload_n 1, 1) := by decide +kernel
theorem dX6_sell_5 : decode cX6_sell 5 = .ok (.invokevirtual 54, 3) := by decide +kernel
theorem dX6_sell_8 : decode cX6_sell 8 = .ok (.aload_n 0, 1) := by decide +kernel
theorem dX6_sell_9 : decode cX6_sell 9 = .ok (.dup, 1) := by decide +kernel
theorem dX6_sell_10 : decode cX6_sell 10 = .ok (.getfield 13, 3) := by decide +kernel
theorem dX6_sell_13 : decode cX6_sell 13 = .ok (.iload_n 1, 1) := by decide +kernel
theorem dX6_sell_14 : decode cX6_sell 14 = .ok (.i2l, 1) := by decide +kernel
theorem dX6_sell_15 : decode cX6_sell 15 = .ok (.ladd, 1) := by decide +kernel
theorem dX6_sell_16 : decode cX6_sell 16 = .ok (.putfield 13, 3) := by decide +kernel
theorem dX6_sell_19 : decode cX6_sell 19 = .ok (.aload_n 0, 1) := by decide +kernel
theorem dX6_sell_20 : decode cX6_sell 20 = .ok (.dup, 1) := by decide +kernel
theorem dX6_sell_21 : decode cX6_sell 21 = .ok (.getfield 57, 3) := by decide +kernel
theorem dX6_sell_24 : decode cX6_sell 24 = .ok (.iload_n 1, 1) := by decide +kernel
theorem dX6_sell_25 : decode cX6_sell 25 = .ok (.i2l, 1) := by decide +kernel
theorem dX6_sell_26 : decode cX6_sell 26 = .ok (.ladd, 1) := by decide +kernel
theorem dX6_sell_27 : decode cX6_sell 27 = .ok (.putfield 57, 3) := by decide +kernel
theorem dX6_sell_30 : decode cX6_sell 30 = .ok (.return_, 1) := by decide +kernel
theorem dX6_lend_0 : decode cX6_lend 0 = .ok (.aload_n 0, 1) := by decide +kernel
theorem dX6_lend_1 : decode cX6_lend 1 = .ok (.getfield 22, 3) := by decide +kernel
theorem dX6_lend_4 : decode cX6_lend 4 = .ok (.iload_n 1, 1) := by decide +kernel
theorem dX6_lend_5 : decode cX6_lend 5 = .ok (.invokevirtual 54, 3) := by decide +kernel
theorem dX6_lend_8 : decode cX6_lend 8 = .ok (.aload_n 0, 1) := by decide +kernel
theorem dX6_lend_9 : decode cX6_lend 9 = .ok (.dup, 1) := by decide +kernel
theorem dX6_lend_10 : decode cX6_lend 10 = .ok (.getfield 13, 3) := by decide +kernel
theorem dX6_lend_13 : decode cX6_lend 13 = .ok (.iload_n 1, 1) := by decide +kernel
theorem dX6_lend_14 : decode cX6_lend 14 = .ok (.i2l, 1) := by decide +kernel
theorem dX6_lend_15 : decode cX6_lend 15 = .ok (.ladd, 1) := by decide +kernel
theorem dX6_lend_16 : decode cX6_lend 16 = .ok (.putfield 13, 3) := by decide +kernel
theorem dX6_lend_19 : decode cX6_lend 19 = .ok (.aload_n 0, 1) := by decide +kernel
theorem dX6_lend_20 : decode cX6_lend 20 = .ok (.dup, 1) := by decide +kernel
theorem dX6_lend_21 : decode cX6_lend 21 = .ok (.getfield 45, 3) := by decide +kernel
theorem dX6_lend_24 : decode cX6_lend 24 = .ok (.iload_n 1, 1) := by decide +kernel
theorem dX6_lend_25 : decode cX6_lend 25 = .ok (.i2l, 1) := by decide +kernel
theorem dX6_lend_26 : decode cX6_lend 26 = .ok (.iload_n 2, 1) := by decide +kernel
theorem dX6_lend_27 : decode cX6_lend 27 = .ok (.i2l, 1) := by decide +kernel
theorem dX6_lend_28 : decode cX6_lend 28 = .ok (.lmul, 1) := by decide +kernel
theorem dX6_lend_29 : decode cX6_lend 29 = .ok (.ldc2_w 60, 3) := by decide +kernel
theorem dX6_lend_32 : decode cX6_lend 32 = .ok (.ladd, 1) := by decide +kernel
theorem dX6_lend_33 : decode cX6_lend 33 = .ok (.ldc2_w 62, 3) := by decide +kernel
theorem dX6_lend_36 : decode cX6_lend 36 = .ok (.ldiv, 1) := by decide +kernel
theorem dX6_lend_37 : decode cX6_lend 37 = .ok (.ladd, 1) := by decide +kernel
theorem dX6_lend_38 : decode cX6_lend 38 = .ok (.putfield 45, 3) := by decide +kernel
theorem dX6_lend_41 : decode cX6_lend 41 = .ok (.return_, 1) := by decide +kernel
theorem dX6_eat_0 : decode cX6_eat 0 = .ok (.aload_n 0, 1) := by decide +kernel
theorem dX6_eat_1 : decode cX6_eat 1 = .ok (.getfield 7, 3) := by decide +kernel
theorem dX6_eat_4 : decode cX6_eat 4 = .ok (.i2l, 1) := by decide +kernel
theorem dX6_eat_5 : decode cX6_eat 5 = .ok (.aload_n 0, 1) := by decide +kernel
theorem dX6_eat_6 : decode cX6_eat 6 = .ok (.getfield 13, 3) := by decide +kernel
theorem dX6_eat_9 : decode cX6_eat 9 = .ok (.invokestatic 48, 3) := by decide +kernel
theorem dX6_eat_12 : decode cX6_eat 12 = .ok (.lstore_n 1, 1) := by decide +kernel
theorem dX6_eat_13 : decode cX6_eat 13 = .ok (.aload_n 0, 1) := by decide +kernel
theorem dX6_eat_14 : decode cX6_eat 14 = .ok (.getfield 7, 3) := by decide +kernel
theorem dX6_eat_17 : decode cX6_eat 17 = .ok (.i2l, 1) := by decide +kernel
theorem dX6_eat_18 : decode cX6_eat 18 = .ok (.lload_n 1, 1) := by decide +kernel
theorem dX6_eat_19 : decode cX6_eat 19 = .ok (.lsub, 1) := by decide +kernel
theorem dX6_eat_20 : decode cX6_eat 20 = .ok (.lstore_n 3, 1) := by decide +kernel
theorem dX6_eat_21 : decode cX6_eat 21 = .ok (.aload_n 0, 1) := by decide +kernel
theorem dX6_eat_22 : decode cX6_eat 22 = .ok (.dup, 1) := by decide +kernel
theorem dX6_eat_23 : decode cX6_eat 23 = .ok (.getfield 13, 3) := by decide +kernel
theorem dX6_eat_26 : decode cX6_eat 26 = .ok (.lload_n 1, 1) := by decide +kernel
theorem dX6_eat_27 : decode cX6_eat 27 = .ok (.lsub, 1) := by decide +kernel
theorem dX6_eat_28 : decode cX6_eat 28 = .ok (.putfield 13, 3) := by decide +kernel
theorem dX6_eat_31 : decode cX6_eat 31 = .ok (.aload_n 0, 1) := by decide +kernel
theorem dX6_eat_32 : decode cX6_eat 32 = .ok (.dup, 1) := by decide +kernel
theorem dX6_eat_33 : decode cX6_eat 33 = .ok (.getfield 64, 3) := by decide +kernel
theorem dX6_eat_36 : decode cX6_eat 36 = .ok (.lload_n 3, 1) := by decide +kernel
theorem dX6_eat_37 : decode cX6_eat 37 = .ok (.ladd, 1) := by decide +kernel
theorem dX6_eat_38 : decode cX6_eat 38 = .ok (.putfield 64, 3) := by decide +kernel
theorem dX6_eat_41 : decode cX6_eat 41 = .ok (.lload_n 3, 1) := by decide +kernel
theorem dX6_eat_42 : decode cX6_eat 42 = .ok (.lreturn, 1) := by decide +kernel
theorem dX6_spoilLots_0 : decode cX6_spoilLots 0 = .ok (.aload_n 0, 1) := by decide +kernel
theorem dX6_spoilLots_1 : decode cX6_spoilLots 1 = .ok (.dup, 1) := by decide +kernel
theorem dX6_spoilLots_2 : decode cX6_spoilLots 2 = .ok (.getfield 67, 3) := by decide +kernel
theorem dX6_spoilLots_5 : decode cX6_spoilLots 5 = .ok (.aload_n 0, 1) := by decide +kernel
theorem dX6_spoilLots_6 : decode cX6_spoilLots 6 = .ok (.getfield 22, 3) := by decide +kernel
theorem dX6_spoilLots_9 : decode cX6_spoilLots 9 = .ok (.iload_n 1, 1) := by decide +kernel
theorem dX6_spoilLots_10 : decode cX6_spoilLots 10 = .ok (.iload_n 2, 1) := by decide +kernel
theorem dX6_spoilLots_11 : decode cX6_spoilLots 11 = .ok (.invokevirtual 70, 3) := by decide +kernel
theorem dX6_spoilLots_14 : decode cX6_spoilLots 14 = .ok (.ladd, 1) := by decide +kernel
theorem dX6_spoilLots_15 : decode cX6_spoilLots 15 = .ok (.putfield 67, 3) := by decide +kernel
theorem dX6_spoilLots_18 : decode cX6_spoilLots 18 = .ok (.return_, 1) := by decide +kernel
theorem dX6_turnOver_0 : decode cX6_turnOver 0 = .ok (.iload_n 1, 1) := by decide +kernel
theorem dX6_turnOver_1 : decode cX6_turnOver 1 = .ok (.ifCond .gt 4, 3) := by decide +kernel
theorem dX6_turnOver_4 : decode cX6_turnOver 4 = .ok (.return_, 1) := by decide +kernel
theorem dX6_turnOver_5 : decode cX6_turnOver 5 = .ok (.aload_n 0, 1) := by decide +kernel
theorem dX6_turnOver_6 : decode cX6_turnOver 6 = .ok (.getfield 22, 3) := by decide +kernel
theorem dX6_turnOver_9 : decode cX6_turnOver 9 = .ok (.invokevirtual 74, 3) := by decide +kernel
theorem dX6_turnOver_12 : decode cX6_turnOver 12 = .ok (.iload_n 1, 1) := by decide +kernel
theorem dX6_turnOver_13 : decode cX6_turnOver 13 = .ok (.iadd, 1) := by decide +kernel
theorem dX6_turnOver_14 : decode cX6_turnOver 14 = .ok (.iconst 1, 1) := by decide +kernel
theorem dX6_turnOver_15 : decode cX6_turnOver 15 = .ok (.isub, 1) := by decide +kernel
theorem dX6_turnOver_16 : decode cX6_turnOver 16 = .ok (.iload_n 1, 1) := by decide +kernel
theorem dX6_turnOver_17 : decode cX6_turnOver 17 = .ok (.idiv, 1) := by decide +kernel
theorem dX6_turnOver_18 : decode cX6_turnOver 18 = .ok (.istore_n 3, 1) := by decide +kernel
theorem dX6_turnOver_19 : decode cX6_turnOver 19 = .ok (.iload_n 3, 1) := by decide +kernel
theorem dX6_turnOver_20 : decode cX6_turnOver 20 = .ok (.i2l, 1) := by decide +kernel
theorem dX6_turnOver_21 : decode cX6_turnOver 21 = .ok (.aload_n 0, 1) := by decide +kernel
theorem dX6_turnOver_22 : decode cX6_turnOver 22 = .ok (.getfield 13, 3) := by decide +kernel
theorem dX6_turnOver_25 : decode cX6_turnOver 25 = .ok (.invokestatic 48, 3) := by decide +kernel
theorem dX6_turnOver_28 : decode cX6_turnOver 28 = .ok (.l2i, 1) := by decide +kernel
theorem dX6_turnOver_29 : decode cX6_turnOver 29 = .ok (.istore 4, 2) := by decide +kernel
theorem dX6_turnOver_31 : decode cX6_turnOver 31 = .ok (.aload_n 0, 1) := by decide +kernel
theorem dX6_turnOver_32 : decode cX6_turnOver 32 = .ok (.getfield 22, 3) := by decide +kernel
theorem dX6_turnOver_35 : decode cX6_turnOver 35 = .ok (.iload 4, 2) := by decide +kernel
theorem dX6_turnOver_37 : decode cX6_turnOver 37 = .ok (.invokevirtual 54, 3) := by decide +kernel
theorem dX6_turnOver_40 : decode cX6_turnOver 40 = .ok (.aload_n 0, 1) := by decide +kernel
theorem dX6_turnOver_41 : decode cX6_turnOver 41 = .ok (.getfield 22, 3) := by decide +kernel
theorem dX6_turnOver_44 : decode cX6_turnOver 44 = .ok (.iload 4, 2) := by decide +kernel
theorem dX6_turnOver_46 : decode cX6_turnOver 46 = .ok (.iload_n 2, 1) := by decide +kernel
theorem dX6_turnOver_47 : decode cX6_turnOver 47 = .ok (.invokevirtual 38, 3) := by decide +kernel
theorem dX6_turnOver_50 : decode cX6_turnOver 50 = .ok (.return_, 1) := by decide +kernel
theorem dX6_imitate_0 : decode cX6_imitate 0 = .ok (.aload_n 0, 1) := by decide +kernel
theorem dX6_imitate_1 : decode cX6_imitate 1 = .ok (.aload_n 1, 1) := by decide +kernel
theorem dX6_imitate_2 : decode cX6_imitate 2 = .ok (.getfield 7, 3) := by decide +kernel
theorem dX6_imitate_5 : decode cX6_imitate 5 = .ok (.putfield 7, 3) := by decide +kernel
theorem dX6_imitate_8 : decode cX6_imitate 8 = .ok (.aload_n 0, 1) := by decide +kernel
theorem dX6_imitate_9 : decode cX6_imitate 9 = .ok (.aload_n 1, 1) := by decide +kernel
theorem dX6_imitate_10 : decode cX6_imitate 10 = .ok (.getfield 13, 3) := by decide +kernel
theorem dX6_imitate_13 : decode cX6_imitate 13 = .ok (.putfield 13, 3) := by decide +kernel
theorem dX6_imitate_16 : decode cX6_imitate 16 = .ok (.aload_n 0, 1) := by decide +kernel
theorem dX6_imitate_17 : decode cX6_imitate 17 = .ok (.aload_n 1, 1) := by decide +kernel
theorem dX6_imitate_18 : decode cX6_imitate 18 = .ok (.getfield 45, 3) := by decide +kernel
theorem dX6_imitate_21 : decode cX6_imitate 21 = .ok (.putfield 45, 3) := by decide +kernel
theorem dX6_imitate_24 : decode cX6_imitate 24 = .ok (.aload_n 0, 1) := by decide +kernel
theorem dX6_imitate_25 : decode cX6_imitate 25 = .ok (.iconst 0, 1) := by decide +kernel
theorem dX6_imitate_26 : decode cX6_imitate 26 = .ok (.putfield 42, 3) := by decide +kernel
theorem dX6_imitate_29 : decode cX6_imitate 29 = .ok (.aload_n 0, 1) := by decide +kernel
theorem dX6_imitate_30 : decode cX6_imitate 30 = .ok (.getfield 22, 3) := by decide +kernel
theorem dX6_imitate_33 : decode cX6_imitate 33 = .ok (.aload_n 1, 1) := by decide +kernel
theorem dX6_imitate_34 : decode cX6_imitate 34 = .ok (.getfield 22, 3) := by decide +kernel
theorem dX6_imitate_37 : decode cX6_imitate 37 = .ok (.invokevirtual 77, 3) := by decide +kernel
theorem dX6_imitate_40 : decode cX6_imitate 40 = .ok (.return_, 1) := by decide +kernel
theorem dX7_init_0 : decode cX7_init 0 = .ok (.aload_n 0, 1) := by decide +kernel
theorem dX7_init_1 : decode cX7_init 1 = .ok (.invokespecial 1, 3) := by decide +kernel
theorem dX7_init_4 : decode cX7_init 4 = .ok (.aload_n 0, 1) := by decide +kernel
theorem dX7_init_5 : decode cX7_init 5 = .ok (.new 7, 3) := by decide +kernel
theorem dX7_init_8 : decode cX7_init 8 = .ok (.dup, 1) := by decide +kernel
theorem dX7_init_9 : decode cX7_init 9 = .ok (.invokespecial 9, 3) := by decide +kernel
theorem dX7_init_12 : decode cX7_init 12 = .ok (.putfield 10, 3) := by decide +kernel
theorem dX7_init_15 : decode cX7_init 15 = .ok (.aload_n 0, 1) := by decide +kernel
theorem dX7_init_16 : decode cX7_init 16 = .ok (.new 16, 3) := by decide +kernel
theorem dX7_init_19 : decode cX7_init 19 = .ok (.dup, 1) := by decide +kernel
theorem dX7_init_20 : decode cX7_init 20 = .ok (.invokespecial 18, 3) := by decide +kernel
theorem dX7_init_23 : decode cX7_init 23 = .ok (.putfield 19, 3) := by decide +kernel
theorem dX7_init_26 : decode cX7_init 26 = .ok (.aload_n 0, 1) := by decide +kernel
theorem dX7_init_27 : decode cX7_init 27 = .ok (.new 23, 3) := by decide +kernel
theorem dX7_init_30 : decode cX7_init 30 = .ok (.dup, 1) := by decide +kernel
theorem dX7_init_31 : decode cX7_init 31 = .ok (.invokespecial 25, 3) := by decide +kernel
theorem dX7_init_34 : decode cX7_init 34 = .ok (.putfield 26, 3) := by decide +kernel
theorem dX7_init_37 : decode cX7_init 37 = .ok (.aload_n 0, 1) := by decide +kernel
theorem dX7_init_38 : decode cX7_init 38 = .ok (.new 23, 3) := by decide +kernel
theorem dX7_init_41 : decode cX7_init 41 = .ok (.dup, 1) := by decide +kernel
theorem dX7_init_42 : decode cX7_init 42 = .ok (.invokespecial 25, 3) := by decide +kernel
theorem dX7_init_45 : decode cX7_init 45 = .ok (.putfield 30, 3) := by decide +kernel
theorem dX7_init_48 : decode cX7_init 48 = .ok (.aload_n 0, 1) := by decide +kernel
theorem dX7_init_49 : decode cX7_init 49 = .ok (.new 33, 3) := by decide +kernel
theorem dX7_init_52 : decode cX7_init 52 = .ok (.dup, 1) := by decide +kernel
theorem dX7_init_53 : decode cX7_init 53 = .ok (.invokespecial 35, 3) := by decide +kernel
theorem dX7_init_56 : decode cX7_init 56 = .ok (.putfield 36, 3) := by decide +kernel
theorem dX7_init_59 : decode cX7_init 59 = .ok (.return_, 1) := by decide +kernel
theorem dX7_feed_0 : decode cX7_feed 0 = .ok (.aload_n 0, 1) := by decide +kernel
theorem dX7_feed_1 : decode cX7_feed 1 = .ok (.getfield 10, 3) := by decide +kernel
theorem dX7_feed_4 : decode cX7_feed 4 = .ok (.bipush 20, 2) := by decide +kernel
theorem dX7_feed_6 : decode cX7_feed 6 = .ok (.invokevirtual 40, 3) := by decide +kernel
theorem dX7_feed_9 : decode cX7_feed 9 = .ok (.ifCond .ne 5, 3) := by decide +kernel
theorem dX7_feed_12 : decode cX7_feed 12 = .ok (.iconst (-1), 1) := by decide +kernel
theorem dX7_feed_13 : decode cX7_feed 13 = .ok (.ireturn, 1) := by decide +kernel
theorem dX7_feed_14 : decode cX7_feed 14 = .ok (.aload_n 0, 1) := by decide +kernel
theorem dX7_feed_15 : decode cX7_feed 15 = .ok (.getfield 10, 3) := by decide +kernel
theorem dX7_feed_18 : decode cX7_feed 18 = .ok (.iload_n 1, 1) := by decide +kernel
theorem dX7_feed_19 : decode cX7_feed 19 = .ok (.invokevirtual 44, 3) := by decide +kernel
theorem dX7_feed_22 : decode cX7_feed 22 = .ok (.aload_n 0, 1) := by decide +kernel
theorem dX7_feed_23 : decode cX7_feed 23 = .ok (.getfield 10, 3) := by decide +kernel
theorem dX7_feed_26 : decode cX7_feed 26 = .ok (.iload_n 2, 1) := by decide +kernel
theorem dX7_feed_27 : decode cX7_feed 27 = .ok (.invokevirtual 44, 3) := by decide +kernel
theorem dX7_feed_30 : decode cX7_feed 30 = .ok (.aload_n 0, 1) := by decide +kernel
theorem dX7_feed_31 : decode cX7_feed 31 = .ok (.getfield 10, 3) := by decide +kernel
theorem dX7_feed_34 : decode cX7_feed 34 = .ok (.iload_n 3, 1) := by decide +kernel
theorem dX7_feed_35 : decode cX7_feed 35 = .ok (.invokevirtual 44, 3) := by decide +kernel
theorem dX7_feed_38 : decode cX7_feed 38 = .ok (.aload_n 0, 1) := by decide +kernel
theorem dX7_feed_39 : decode cX7_feed 39 = .ok (.getfield 10, 3) := by decide +kernel
theorem dX7_feed_42 : decode cX7_feed 42 = .ok (.iload 4, 2) := by decide +kernel
theorem dX7_feed_44 : decode cX7_feed 44 = .ok (.invokevirtual 44, 3) := by decide +kernel
theorem dX7_feed_47 : decode cX7_feed 47 = .ok (.aload_n 0, 1) := by decide +kernel
theorem dX7_feed_48 : decode cX7_feed 48 = .ok (.getfield 10, 3) := by decide +kernel
theorem dX7_feed_51 : decode cX7_feed 51 = .ok (.iload 5, 2) := by decide +kernel
theorem dX7_feed_53 : decode cX7_feed 53 = .ok (.invokevirtual 44, 3) := by decide +kernel
theorem dX7_feed_56 : decode cX7_feed 56 = .ok (.aload_n 0, 1) := by decide +kernel
theorem dX7_feed_57 : decode cX7_feed 57 = .ok (.getfield 10, 3) := by decide +kernel
theorem dX7_feed_60 : decode cX7_feed 60 = .ok (.invokevirtual 48, 3) := by decide +kernel
theorem dX7_feed_63 : decode cX7_feed 63 = .ok (.ireturn, 1) := by decide +kernel
theorem dX7_edict_0 : decode cX7_edict 0 = .ok (.iload_n 1, 1) := by decide +kernel
theorem dX7_edict_1 : decode cX7_edict 1 = .ok (.ifCond .lt 14, 3) := by decide +kernel
theorem dX7_edict_4 : decode cX7_edict 4 = .ok (.iload_n 1, 1) := by decide +kernel
theorem dX7_edict_5 : decode cX7_edict 5 = .ok (.aload_n 0, 1) := by decide +kernel
theorem dX7_edict_6 : decode cX7_edict 6 = .ok (.getfield 10, 3) := by decide +kernel
theorem dX7_edict_9 : decode cX7_edict 9 = .ok (.invokevirtual 48, 3) := by decide +kernel
theorem dX7_edict_12 : decode cX7_edict 12 = .ok (.if_icmp .le 5, 3) := by decide +kernel
theorem dX7_edict_15 : decode cX7_edict 15 = .ok (.iconst (-1), 1) := by decide +kernel
theorem dX7_edict_16 : decode cX7_edict 16 = .ok (.ireturn, 1) := by decide +kernel
theorem dX7_edict_17 : decode cX7_edict 17 = .ok (.aload_n 0, 1) := by decide +kernel
theorem dX7_edict_18 : decode cX7_edict 18 = .ok (.getfield 19, 3) := by decide +kernel
theorem dX7_edict_21 : decode cX7_edict 21 = .ok (.aload_n 0, 1) := by decide +kernel
theorem dX7_edict_22 : decode cX7_edict 22 = .ok (.getfield 10, 3) := by decide +kernel
theorem dX7_edict_25 : decode cX7_edict 25 = .ok (.iload_n 1, 1) := by decide +kernel
theorem dX7_edict_26 : decode cX7_edict 26 = .ok (.invokevirtual 52, 3) := by decide +kernel
theorem dX7_edict_29 : decode cX7_edict 29 = .ok (.istore_n 2, 1) := by decide +kernel
theorem dX7_edict_30 : decode cX7_edict 30 = .ok (.aload_n 0, 1) := by decide +kernel
theorem dX7_edict_31 : decode cX7_edict 31 = .ok (.getfield 10, 3) := by decide +kernel
theorem dX7_edict_34 : decode cX7_edict 34 = .ok (.invokevirtual 56, 3) := by decide +kernel
theorem dX7_edict_37 : decode cX7_edict 37 = .ok (.iload_n 2, 1) := by decide +kernel
theorem dX7_edict_38 : decode cX7_edict 38 = .ok (.ireturn, 1) := by decide +kernel
theorem dX7_rule_0 : decode cX7_rule 0 = .ok (.iload_n 1, 1) := by decide +kernel
theorem dX7_rule_1 : decode cX7_rule 1 = .ok (.invokestatic 59, 3) := by decide +kernel
theorem dX7_rule_4 : decode cX7_rule 4 = .ok (.istore_n 2, 1) := by decide +kernel
theorem dX7_rule_5 : decode cX7_rule 5 = .ok (.iload_n 2, 1) := by decide +kernel
theorem dX7_rule_6 : decode cX7_rule 6 = .ok (.ifCond .ge 7, 3) := by decide +kernel
theorem dX7_rule_9 : decode cX7_rule 9 = .ok (.iconst (-1), 1) := by decide +kernel
theorem dX7_rule_10 : decode cX7_rule 10 = .ok (.goto 11, 3) := by decide +kernel
theorem dX7_rule_13 : decode cX7_rule 13 = .ok (.aload_n 0, 1) := by decide +kernel
theorem dX7_rule_14 : decode cX7_rule 14 = .ok (.getfield 19, 3) := by decide +kernel
theorem dX7_rule_17 : decode cX7_rule 17 = .ok (.iload_n 2, 1) := by decide +kernel
theorem dX7_rule_18 : decode cX7_rule 18 = .ok (.invokevirtual 63, 3) := by decide +kernel
theorem dX7_rule_21 : decode cX7_rule 21 = .ok (.ireturn, 1) := by decide +kernel
theorem dX7_town_0 : decode cX7_town 0 = .ok (.aload_n 0, 1) := by decide +kernel
theorem dX7_town_1 : decode cX7_town 1 = .ok (.getfield 26, 3) := by decide +kernel
theorem dX7_town_4 : decode cX7_town 4 = .ok (.invokevirtual 66, 3) := by decide +kernel
theorem dX7_town_7 : decode cX7_town 7 = .ok (.bipush 8, 2) := by decide +kernel
theorem dX7_town_9 : decode cX7_town 9 = .ok (.if_icmp .ge 34, 3) := by decide +kernel
theorem dX7_town_12 : decode cX7_town 12 = .ok (.iload_n 1, 1) := by decide +kernel
theorem dX7_town_13 : decode cX7_town 13 = .ok (.iconst 1, 1) := by decide +kernel
theorem dX7_town_14 : decode cX7_town 14 = .ok (.sipush 1000, 3) := by decide +kernel
theorem dX7_town_17 : decode cX7_town 17 = .ok (.invokestatic 69, 3) := by decide +kernel
theorem dX7_town_20 : decode cX7_town 20 = .ok (.ifCond .eq 23, 3) := by decide +kernel
theorem dX7_town_23 : decode cX7_town 23 = .ok (.iload_n 2, 1) := by decide +kernel
theorem dX7_town_24 : decode cX7_town 24 = .ok (.iconst 0, 1) := by decide +kernel
theorem dX7_town_25 : decode cX7_town 25 = .ok (.ldc 73, 2) := by decide +kernel
theorem dX7_town_27 : decode cX7_town 27 = .ok (.invokestatic 69, 3) := by decide +kernel
theorem dX7_town_30 : decode cX7_town 30 = .ok (.ifCond .eq 13, 3) := by decide +kernel
theorem dX7_town_33 : decode cX7_town 33 = .ok (.iload_n 3, 1) := by decide +kernel
theorem dX7_town_34 : decode cX7_town 34 = .ok (.iconst 0, 1) := by decide +kernel
theorem dX7_town_35 : decode cX7_town 35 = .ok (.ldc 74, 2) := by decide +kernel
theorem dX7_town_37 : decode cX7_town 37 = .ok (.invokestatic 69, 3) := by decide +kernel
theorem dX7_town_40 : decode cX7_town 40 = .ok (.ifCond .ne 5, 3) := by decide +kernel
theorem dX7_town_43 : decode cX7_town 43 = .ok (.iconst (-1), 1) := by decide +kernel
theorem dX7_town_44 : decode cX7_town 44 = .ok (.ireturn, 1) := by decide +kernel
theorem dX7_town_45 : decode cX7_town 45 = .ok (.aload_n 0, 1) := by decide +kernel
theorem dX7_town_46 : decode cX7_town 46 = .ok (.getfield 26, 3) := by decide +kernel
theorem dX7_town_49 : decode cX7_town 49 = .ok (.new 75, 3) := by decide +kernel
theorem dX7_town_52 : decode cX7_town 52 = .ok (.dup, 1) := by decide +kernel
theorem dX7_town_53 : decode cX7_town 53 = .ok (.iload_n 1, 1) := by decide +kernel
theorem dX7_town_54 : decode cX7_town 54 = .ok (.iload_n 2, 1) := by decide +kernel
theorem dX7_town_55 : decode cX7_town 55 = .ok (.iload_n 3, 1) := by decide +kernel
theorem dX7_town_56 : decode cX7_town 56 = .ok (.invokespecial 77, 3) := by decide +kernel
theorem dX7_town_59 : decode cX7_town 59 = .ok (.invokevirtual 80, 3) := by decide +kernel
theorem dX7_town_62 : decode cX7_town 62 = .ok (.aload_n 0, 1) := by decide +kernel
theorem dX7_town_63 : decode cX7_town 63 = .ok (.getfield 26, 3) := by decide +kernel
theorem dX7_town_66 : decode cX7_town 66 = .ok (.invokevirtual 66, 3) := by decide +kernel
theorem dX7_town_69 : decode cX7_town 69 = .ok (.iconst 1, 1) := by decide +kernel
theorem dX7_town_70 : decode cX7_town 70 = .ok (.isub, 1) := by decide +kernel
theorem dX7_town_71 : decode cX7_town 71 = .ok (.ireturn, 1) := by decide +kernel
theorem dX7_road_0 : decode cX7_road 0 = .ok (.aload_n 0, 1) := by decide +kernel
theorem dX7_road_1 : decode cX7_road 1 = .ok (.getfield 36, 3) := by decide +kernel
theorem dX7_road_4 : decode cX7_road 4 = .ok (.invokevirtual 84, 3) := by decide +kernel
theorem dX7_road_7 : decode cX7_road 7 = .ok (.bipush 12, 2) := by decide +kernel
theorem dX7_road_9 : decode cX7_road 9 = .ok (.if_icmp .ge 52, 3) := by decide +kernel
theorem dX7_road_12 : decode cX7_road 12 = .ok (.iload_n 1, 1) := by decide +kernel
theorem dX7_road_13 : decode cX7_road 13 = .ok (.iload_n 2, 1) := by decide +kernel
theorem dX7_road_14 : decode cX7_road 14 = .ok (.if_icmp .eq 47, 3) := by decide +kernel
theorem dX7_road_17 : decode cX7_road 17 = .ok (.aload_n 0, 1) := by decide +kernel
theorem dX7_road_18 : decode cX7_road 18 = .ok (.getfield 26, 3) := by decide +kernel
theorem dX7_road_21 : decode cX7_road 21 = .ok (.iload_n 1, 1) := by decide +kernel
theorem dX7_road_22 : decode cX7_road 22 = .ok (.invokevirtual 87, 3) := by decide +kernel
theorem dX7_road_25 : decode cX7_road 25 = .ok (.ifnull 36, 3) := by decide +kernel
theorem dX7_road_28 : decode cX7_road 28 = .ok (.aload_n 0, 1) := by decide +kernel
theorem dX7_road_29 : decode cX7_road 29 = .ok (.getfield 26, 3) := by decide +kernel
theorem dX7_road_32 : decode cX7_road 32 = .ok (.iload_n 2, 1) := by decide +kernel
theorem dX7_road_33 : decode cX7_road 33 = .ok (.invokevirtual 87, 3) := by decide +kernel
theorem dX7_road_36 : decode cX7_road 36 = .ok (.ifnull 25, 3) := by decide +kernel
theorem dX7_road_39 : decode cX7_road 39 = .ok (.iload_n 3, 1) := by decide +kernel
theorem dX7_road_40 : decode cX7_road 40 = .ok (.iconst 1, 1) := by decide +kernel
theorem dX7_road_41 : decode cX7_road 41 = .ok (.bipush 6, 2) := by decide +kernel
theorem dX7_road_43 : decode cX7_road 43 = .ok (.invokestatic 69, 3) := by decide +kernel
theorem dX7_road_46 : decode cX7_road 46 = .ok (.ifCond .eq 15, 3) := by decide +kernel
theorem dX7_road_49 : decode cX7_road 49 = .ok (.iload 4, 2) := by decide +kernel
theorem dX7_road_51 : decode cX7_road 51 = .ok (.iconst 1, 1) := by decide +kernel
theorem dX7_road_52 : decode cX7_road 52 = .ok (.sipush 10000, 3) := by decide +kernel
theorem dX7_road_55 : decode cX7_road 55 = .ok (.invokestatic 69, 3) := by decide +kernel
theorem dX7_road_58 : decode cX7_road 58 = .ok (.ifCond .ne 5, 3) := by decide +kernel
theorem dX7_road_61 : decode cX7_road 61 = .ok (.iconst (-1), 1) := by decide +kernel
theorem dX7_road_62 : decode cX7_road 62 = .ok (.ireturn, 1) := by decide +kernel
theorem dX7_road_63 : decode cX7_road 63 = .ok (.aload_n 0, 1) := by decide +kernel
theorem dX7_road_64 : decode cX7_road 64 = .ok (.getfield 36, 3) := by decide +kernel
theorem dX7_road_67 : decode cX7_road 67 = .ok (.new 91, 3) := by decide +kernel
theorem dX7_road_70 : decode cX7_road 70 = .ok (.dup, 1) := by decide +kernel
theorem dX7_road_71 : decode cX7_road 71 = .ok (.iload_n 1, 1) := by decide +kernel
theorem dX7_road_72 : decode cX7_road 72 = .ok (.iload_n 2, 1) := by decide +kernel
theorem dX7_road_73 : decode cX7_road 73 = .ok (.iload_n 3, 1) := by decide +kernel
theorem dX7_road_74 : decode cX7_road 74 = .ok (.iload 4, 2) := by decide +kernel
theorem dX7_road_76 : decode cX7_road 76 = .ok (.invokespecial 93, 3) := by decide +kernel
theorem dX7_road_79 : decode cX7_road 79 = .ok (.invokevirtual 96, 3) := by decide +kernel
theorem dX7_road_82 : decode cX7_road 82 = .ok (.pop, 1) := by decide +kernel
theorem dX7_road_83 : decode cX7_road 83 = .ok (.aload_n 0, 1) := by decide +kernel
theorem dX7_road_84 : decode cX7_road 84 = .ok (.getfield 36, 3) := by decide +kernel
theorem dX7_road_87 : decode cX7_road 87 = .ok (.invokevirtual 84, 3) := by decide +kernel
theorem dX7_road_90 : decode cX7_road 90 = .ok (.iconst 1, 1) := by decide +kernel
theorem dX7_road_91 : decode cX7_road 91 = .ok (.isub, 1) := by decide +kernel
theorem dX7_road_92 : decode cX7_road 92 = .ok (.ireturn, 1) := by decide +kernel
theorem dX7_coin_0 : decode cX7_coin 0 = .ok (.lload_n 1, 1) := by decide +kernel
theorem dX7_coin_1 : decode cX7_coin 1 = .ok (.lconst 0, 1) := by decide +kernel
theorem dX7_coin_2 : decode cX7_coin 2 = .ok (.lcmp, 1) := by decide +kernel
theorem dX7_coin_3 : decode cX7_coin 3 = .ok (.ifCond .lt 11, 3) := by decide +kernel
theorem dX7_coin_6 : decode cX7_coin 6 = .ok (.lload_n 1, 1) := by decide +kernel
theorem dX7_coin_7 : decode cX7_coin 7 = .ok (.ldc2_w 100, 3) := by decide +kernel
theorem dX7_coin_10 : decode cX7_coin 10 = .ok (.lcmp, 1) := by decide +kernel
theorem dX7_coin_11 : decode cX7_coin 11 = .ok (.ifCond .le 5, 3) := by decide +kernel
theorem dX7_coin_14 : decode cX7_coin 14 = .ok (.iconst 0, 1) := by decide +kernel
theorem dX7_coin_15 : decode cX7_coin 15 = .ok (.ireturn, 1) := by decide +kernel
theorem dX7_coin_16 : decode cX7_coin 16 = .ok (.aload_n 0, 1) := by decide +kernel
theorem dX7_coin_17 : decode cX7_coin 17 = .ok (.getfield 26, 3) := by decide +kernel
theorem dX7_coin_20 : decode cX7_coin 20 = .ok (.lload_n 1, 1) := by decide +kernel
theorem dX7_coin_21 : decode cX7_coin 21 = .ok (.putfield 102, 3) := by decide +kernel
theorem dX7_coin_24 : decode cX7_coin 24 = .ok (.iconst 1, 1) := by decide +kernel
theorem dX7_coin_25 : decode cX7_coin 25 = .ok (.ireturn, 1) := by decide +kernel
theorem dX7_harvest_0 : decode cX7_harvest 0 = .ok (.aload_n 0, 1) := by decide +kernel
theorem dX7_harvest_1 : decode cX7_harvest 1 = .ok (.getfield 26, 3) := by decide +kernel
theorem dX7_harvest_4 : decode cX7_harvest 4 = .ok (.iload_n 1, 1) := by decide +kernel
theorem dX7_harvest_5 : decode cX7_harvest 5 = .ok (.invokevirtual 87, 3) := by decide +kernel
theorem dX7_harvest_8 : decode cX7_harvest 8 = .ok (.astore_n 3, 1) := by decide +kernel
theorem dX7_harvest_9 : decode cX7_harvest 9 = .ok (.aload_n 3, 1) := by decide +kernel
theorem dX7_harvest_10 : decode cX7_harvest 10 = .ok (.ifnull 13, 3) := by decide +kernel
theorem dX7_harvest_13 : decode cX7_harvest 13 = .ok (.iload_n 2, 1) := by decide +kernel
theorem dX7_harvest_14 : decode cX7_harvest 14 = .ok (.iconst 0, 1) := by decide +kernel
theorem dX7_harvest_15 : decode cX7_harvest 15 = .ok (.ldc 73, 2) := by decide +kernel
theorem dX7_harvest_17 : decode cX7_harvest 17 = .ok (.invokestatic 69, 3) := by decide +kernel
theorem dX7_harvest_20 : decode cX7_harvest 20 = .ok (.ifCond .ne 5, 3) := by decide +kernel
theorem dX7_harvest_23 : decode cX7_harvest 23 = .ok (.iconst 0, 1) := by decide +kernel
theorem dX7_harvest_24 : decode cX7_harvest 24 = .ok (.ireturn, 1) := by decide +kernel
theorem dX7_harvest_25 : decode cX7_harvest 25 = .ok (.aload_n 3, 1) := by decide +kernel
theorem dX7_harvest_26 : decode cX7_harvest 26 = .ok (.iload_n 2, 1) := by decide +kernel
theorem dX7_harvest_27 : decode cX7_harvest 27 = .ok (.putfield 106, 3) := by decide +kernel
theorem dX7_harvest_30 : decode cX7_harvest 30 = .ok (.iconst 1, 1) := by decide +kernel
theorem dX7_harvest_31 : decode cX7_harvest 31 = .ok (.ireturn, 1) := by decide +kernel
theorem dX7_step_0 : decode cX7_step 0 = .ok (.iload_n 1, 1) := by decide +kernel
theorem dX7_step_1 : decode cX7_step 1 = .ok (.iconst 1, 1) := by decide +kernel
theorem dX7_step_2 : decode cX7_step 2 = .ok (.bipush 24, 2) := by decide +kernel
theorem dX7_step_4 : decode cX7_step 4 = .ok (.invokestatic 69, 3) := by decide +kernel
theorem dX7_step_7 : decode cX7_step 7 = .ok (.ifCond .eq 18, 3) := by decide +kernel
theorem dX7_step_10 : decode cX7_step 10 = .ok (.aload_n 0, 1) := by decide +kernel
theorem dX7_step_11 : decode cX7_step 11 = .ok (.getfield 26, 3) := by decide +kernel
theorem dX7_step_14 : decode cX7_step 14 = .ok (.getfield 110, 3) := by decide +kernel
theorem dX7_step_17 : decode cX7_step 17 = .ok (.iload_n 1, 1) := by decide +kernel
theorem dX7_step_18 : decode cX7_step 18 = .ok (.iadd, 1) := by decide +kernel
theorem dX7_step_19 : decode cX7_step 19 = .ok (.sipush 2000, 3) := by decide +kernel
theorem dX7_step_22 : decode cX7_step 22 = .ok (.if_icmp .le 5, 3) := by decide +kernel
theorem dX7_step_25 : decode cX7_step 25 = .ok (.iconst (-1), 1) := by decide +kernel
theorem dX7_step_26 : decode cX7_step 26 = .ok (.ireturn, 1) := by decide +kernel
theorem dX7_step_27 : decode cX7_step 27 = .ok (.aload_n 0, 1) := by decide +kernel
theorem dX7_step_28 : decode cX7_step 28 = .ok (.getfield 26, 3) := by decide +kernel
theorem dX7_step_31 : decode cX7_step 31 = .ok (.iload_n 1, 1) := by decide +kernel
theorem dX7_step_32 : decode cX7_step 32 = .ok (.aload_n 0, 1) := by decide +kernel
theorem dX7_step_33 : decode cX7_step 33 = .ok (.getfield 19, 3) := by decide +kernel
theorem dX7_step_36 : decode cX7_step 36 = .ok (.invokevirtual 113, 3) := by decide +kernel
theorem dX7_step_39 : decode cX7_step 39 = .ok (.pop2, 1) := by decide +kernel
theorem dX7_step_40 : decode cX7_step 40 = .ok (.iconst 0, 1) := by decide +kernel
theorem dX7_step_41 : decode cX7_step 41 = .ok (.istore_n 2, 1) := by decide +kernel
theorem dX7_step_42 : decode cX7_step 42 = .ok (.iload_n 2, 1) := by decide +kernel
theorem dX7_step_43 : decode cX7_step 43 = .ok (.aload_n 0, 1) := by decide +kernel
theorem dX7_step_44 : decode cX7_step 44 = .ok (.getfield 36, 3) := by decide +kernel
theorem dX7_step_47 : decode cX7_step 47 = .ok (.invokevirtual 84, 3) := by decide +kernel
theorem dX7_step_50 : decode cX7_step 50 = .ok (.if_icmp .ge 24, 3) := by decide +kernel
theorem dX7_step_53 : decode cX7_step 53 = .ok (.aload_n 0, 1) := by decide +kernel
theorem dX7_step_54 : decode cX7_step 54 = .ok (.getfield 36, 3) := by decide +kernel
theorem dX7_step_57 : decode cX7_step 57 = .ok (.iload_n 2, 1) := by decide +kernel
theorem dX7_step_58 : decode cX7_step 58 = .ok (.invokevirtual 117, 3) := by decide +kernel
theorem dX7_step_61 : decode cX7_step 61 = .ok (.checkcast 91, 3) := by decide +kernel
theorem dX7_step_64 : decode cX7_step 64 = .ok (.iconst 0, 1) := by decide +kernel
theorem dX7_step_65 : decode cX7_step 65 = .ok (.putfield 121, 3) := by decide +kernel
theorem dX7_step_68 : decode cX7_step 68 = .ok (.iinc 2 1, 3) := by decide +kernel
theorem dX7_step_71 : decode cX7_step 71 = .ok (.goto (-29), 3) := by decide +kernel
theorem dX7_step_74 : decode cX7_step 74 = .ok (.aload_n 0, 1) := by decide +kernel
theorem dX7_step_75 : decode cX7_step 75 = .ok (.getfield 26, 3) := by decide +kernel
theorem dX7_step_78 : decode cX7_step 78 = .ok (.getfield 110, 3) := by decide +kernel
theorem dX7_step_81 : decode cX7_step 81 = .ok (.ireturn, 1) := by decide +kernel
theorem dX7_move_0 : decode cX7_move 0 = .ok (.aload_n 0, 1) := by decide +kernel
theorem dX7_move_1 : decode cX7_move 1 = .ok (.iload_n 2, 1) := by decide +kernel
theorem dX7_move_2 : decode cX7_move 2 = .ok (.invokevirtual 124, 3) := by decide +kernel
theorem dX7_move_5 : decode cX7_move 5 = .ok (.astore 4, 2) := by decide +kernel
theorem dX7_move_7 : decode cX7_move 7 = .ok (.aload 4, 2) := by decide +kernel
theorem dX7_move_9 : decode cX7_move 9 = .ok (.ifnull 19, 3) := by decide +kernel
theorem dX7_move_12 : decode cX7_move 12 = .ok (.iload_n 3, 1) := by decide +kernel
theorem dX7_move_13 : decode cX7_move 13 = .ok (.iconst 1, 1) := by decide +kernel
theorem dX7_move_14 : decode cX7_move 14 = .ok (.if_icmp .lt 14, 3) := by decide +kernel
theorem dX7_move_17 : decode cX7_move 17 = .ok (.iload_n 3, 1) := by decide +kernel
theorem dX7_move_18 : decode cX7_move 18 = .ok (.aload_n 0, 1) := by decide +kernel
theorem dX7_move_19 : decode cX7_move 19 = .ok (.iload_n 1, 1) := by decide +kernel
theorem dX7_move_20 : decode cX7_move 20 = .ok (.aload 4, 2) := by decide +kernel
theorem dX7_move_22 : decode cX7_move 22 = .ok (.invokevirtual 128, 3) := by decide +kernel
theorem dX7_move_25 : decode cX7_move 25 = .ok (.if_icmp .le 5, 3) := by decide +kernel
theorem dX7_move_28 : decode cX7_move 28 = .ok (.iconst 0, 1) := by decide +kernel
theorem dX7_move_29 : decode cX7_move 29 = .ok (.ireturn, 1) := by decide +kernel
theorem dX7_move_30 : decode cX7_move 30 = .ok (.aload_n 0, 1) := by decide +kernel
theorem dX7_move_31 : decode cX7_move 31 = .ok (.getfield 26, 3) := by decide +kernel
theorem dX7_move_34 : decode cX7_move 34 = .ok (.iload_n 1, 1) := by decide +kernel
theorem dX7_move_35 : decode cX7_move 35 = .ok (.aload 4, 2) := by decide +kernel
theorem dX7_move_37 : decode cX7_move 37 = .ok (.iload_n 3, 1) := by decide +kernel
theorem dX7_move_38 : decode cX7_move 38 = .ok (.invokevirtual 132, 3) := by decide +kernel
theorem dX7_move_41 : decode cX7_move 41 = .ok (.aload 4, 2) := by decide +kernel
theorem dX7_move_43 : decode cX7_move 43 = .ok (.dup, 1) := by decide +kernel
theorem dX7_move_44 : decode cX7_move 44 = .ok (.getfield 121, 3) := by decide +kernel
theorem dX7_move_47 : decode cX7_move 47 = .ok (.iload_n 3, 1) := by decide +kernel
theorem dX7_move_48 : decode cX7_move 48 = .ok (.iadd, 1) := by decide +kernel
theorem dX7_move_49 : decode cX7_move 49 = .ok (.putfield 121, 3) := by decide +kernel
theorem dX7_move_52 : decode cX7_move 52 = .ok (.iconst 1, 1) := by decide +kernel
theorem dX7_move_53 : decode cX7_move 53 = .ok (.ireturn, 1) := by decide +kernel
theorem dX7_loan_0 : decode cX7_loan 0 = .ok (.aload_n 0, 1) := by decide +kernel
theorem dX7_loan_1 : decode cX7_loan 1 = .ok (.getfield 26, 3) := by decide +kernel
theorem dX7_loan_4 : decode cX7_loan 4 = .ok (.iload_n 1, 1) := by decide +kernel
theorem dX7_loan_5 : decode cX7_loan 5 = .ok (.invokevirtual 87, 3) := by decide +kernel
theorem dX7_loan_8 : decode cX7_loan 8 = .ok (.astore_n 3, 1) := by decide +kernel
theorem dX7_loan_9 : decode cX7_loan 9 = .ok (.aload_n 3, 1) := by decide +kernel
theorem dX7_loan_10 : decode cX7_loan 10 = .ok (.ifnull 18, 3) := by decide +kernel
theorem dX7_loan_13 : decode cX7_loan 13 = .ok (.iload_n 2, 1) := by decide +kernel
theorem dX7_loan_14 : decode cX7_loan 14 = .ok (.iconst 1, 1) := by decide +kernel
theorem dX7_loan_15 : decode cX7_loan 15 = .ok (.aload_n 3, 1) := by decide +kernel
theorem dX7_loan_16 : decode cX7_loan 16 = .ok (.getfield 136, 3) := by decide +kernel
theorem dX7_loan_19 : decode cX7_loan 19 = .ok (.invokevirtual 140, 3) := by decide +kernel
theorem dX7_loan_22 : decode cX7_loan 22 = .ok (.invokestatic 69, 3) := by decide +kernel
theorem dX7_loan_25 : decode cX7_loan 25 = .ok (.ifCond .ne 7, 3) := by decide +kernel
theorem dX7_loan_28 : decode cX7_loan 28 = .ok (.ldc2_w 145, 3) := by decide +kernel
theorem dX7_loan_31 : decode cX7_loan 31 = .ok (.lreturn, 1) := by decide +kernel
theorem dX7_loan_32 : decode cX7_loan 32 = .ok (.aload_n 3, 1) := by decide +kernel
theorem dX7_loan_33 : decode cX7_loan 33 = .ok (.iload_n 2, 1) := by decide +kernel
theorem dX7_loan_34 : decode cX7_loan 34 = .ok (.aload_n 0, 1) := by decide +kernel
theorem dX7_loan_35 : decode cX7_loan 35 = .ok (.getfield 19, 3) := by decide +kernel
theorem dX7_loan_38 : decode cX7_loan 38 = .ok (.iconst 4, 1) := by decide +kernel
theorem dX7_loan_39 : decode cX7_loan 39 = .ok (.invokevirtual 63, 3) := by decide +kernel
theorem dX7_loan_42 : decode cX7_loan 42 = .ok (.invokevirtual 147, 3) := by decide +kernel
theorem dX7_loan_45 : decode cX7_loan 45 = .ok (.aload_n 3, 1) := by decide +kernel
theorem dX7_loan_46 : decode cX7_loan 46 = .ok (.getfield 151, 3) := by decide +kernel
theorem dX7_loan_49 : decode cX7_loan 49 = .ok (.lreturn, 1) := by decide +kernel
theorem dX7_steal_0 : decode cX7_steal 0 = .ok (.aload_n 0, 1) := by decide +kernel
theorem dX7_steal_1 : decode cX7_steal 1 = .ok (.getfield 26, 3) := by decide +kernel
theorem dX7_steal_4 : decode cX7_steal 4 = .ok (.iload_n 1, 1) := by decide +kernel
theorem dX7_steal_5 : decode cX7_steal 5 = .ok (.invokevirtual 87, 3) := by decide +kernel
theorem dX7_steal_8 : decode cX7_steal 8 = .ok (.astore_n 3, 1) := by decide +kernel
theorem dX7_steal_9 : decode cX7_steal 9 = .ok (.aload_n 3, 1) := by decide +kernel
theorem dX7_steal_10 : decode cX7_steal 10 = .ok (.ifnull 18, 3) := by decide +kernel
theorem dX7_steal_13 : decode cX7_steal 13 = .ok (.iload_n 2, 1) := by decide +kernel
theorem dX7_steal_14 : decode cX7_steal 14 = .ok (.iconst 1, 1) := by decide +kernel
theorem dX7_steal_15 : decode cX7_steal 15 = .ok (.aload_n 3, 1) := by decide +kernel
theorem dX7_steal_16 : decode cX7_steal 16 = .ok (.getfield 136, 3) := by decide +kernel
theorem dX7_steal_19 : decode cX7_steal 19 = .ok (.invokevirtual 140, 3) := by decide +kernel
theorem dX7_steal_22 : decode cX7_steal 22 = .ok (.invokestatic 69, 3) := by decide +kernel
theorem dX7_steal_25 : decode cX7_steal 25 = .ok (.ifCond .ne 5, 3) := by decide +kernel
theorem dX7_steal_28 : decode cX7_steal 28 = .ok (.iconst 0, 1) := by decide +kernel
theorem dX7_steal_29 : decode cX7_steal 29 = .ok (.ireturn, 1) := by decide +kernel
theorem dX7_steal_30 : decode cX7_steal 30 = .ok (.aload_n 3, 1) := by decide +kernel
theorem dX7_steal_31 : decode cX7_steal 31 = .ok (.getfield 136, 3) := by decide +kernel
theorem dX7_steal_34 : decode cX7_steal 34 = .ok (.iload_n 2, 1) := by decide +kernel
theorem dX7_steal_35 : decode cX7_steal 35 = .ok (.invokevirtual 154, 3) := by decide +kernel
theorem dX7_steal_38 : decode cX7_steal 38 = .ok (.aload_n 3, 1) := by decide +kernel
theorem dX7_steal_39 : decode cX7_steal 39 = .ok (.dup, 1) := by decide +kernel
theorem dX7_steal_40 : decode cX7_steal 40 = .ok (.getfield 157, 3) := by decide +kernel
theorem dX7_steal_43 : decode cX7_steal 43 = .ok (.iload_n 2, 1) := by decide +kernel
theorem dX7_steal_44 : decode cX7_steal 44 = .ok (.i2l, 1) := by decide +kernel
theorem dX7_steal_45 : decode cX7_steal 45 = .ok (.ladd, 1) := by decide +kernel
theorem dX7_steal_46 : decode cX7_steal 46 = .ok (.putfield 157, 3) := by decide +kernel
theorem dX7_steal_49 : decode cX7_steal 49 = .ok (.iconst 1, 1) := by decide +kernel
theorem dX7_steal_50 : decode cX7_steal 50 = .ok (.ireturn, 1) := by decide +kernel
theorem dX7_measure_0 : decode cX7_measure 0 = .ok (.aload_n 0, 1) := by decide +kernel
theorem dX7_measure_1 : decode cX7_measure 1 = .ok (.getfield 26, 3) := by decide +kernel
theorem dX7_measure_4 : decode cX7_measure 4 = .ok (.iload_n 1, 1) := by decide +kernel
theorem dX7_measure_5 : decode cX7_measure 5 = .ok (.invokevirtual 87, 3) := by decide +kernel
theorem dX7_measure_8 : decode cX7_measure 8 = .ok (.astore_n 3, 1) := by decide +kernel
theorem dX7_measure_9 : decode cX7_measure 9 = .ok (.aload_n 3, 1) := by decide +kernel
theorem dX7_measure_10 : decode cX7_measure 10 = .ok (.ifnull 14, 3) := by decide +kernel
theorem dX7_measure_13 : decode cX7_measure 13 = .ok (.aload_n 3, 1) := by decide +kernel
theorem dX7_measure_14 : decode cX7_measure 14 = .ok (.getfield 136, 3) := by decide +kernel
theorem dX7_measure_17 : decode cX7_measure 17 = .ok (.iload_n 2, 1) := by decide +kernel
theorem dX7_measure_18 : decode cX7_measure 18 = .ok (.invokevirtual 160, 3) := by decide +kernel
theorem dX7_measure_21 : decode cX7_measure 21 = .ok (.ifCond .ne 5, 3) := by decide +kernel
theorem dX7_measure_24 : decode cX7_measure 24 = .ok (.iconst (-1), 1) := by decide +kernel
theorem dX7_measure_25 : decode cX7_measure 25 = .ok (.ireturn, 1) := by decide +kernel
theorem dX7_measure_26 : decode cX7_measure 26 = .ok (.aload_n 3, 1) := by decide +kernel
theorem dX7_measure_27 : decode cX7_measure 27 = .ok (.getfield 136, 3) := by decide +kernel
theorem dX7_measure_30 : decode cX7_measure 30 = .ok (.iload_n 2, 1) := by decide +kernel
theorem dX7_measure_31 : decode cX7_measure 31 = .ok (.invokevirtual 163, 3) := by decide +kernel
theorem dX7_measure_34 : decode cX7_measure 34 = .ok (.ireturn, 1) := by decide +kernel
theorem dX7_missing_0 : decode cX7_missing 0 = .ok (.aload_n 0, 1) := by decide +kernel
theorem dX7_missing_1 : decode cX7_missing 1 = .ok (.getfield 26, 3) := by decide +kernel
theorem dX7_missing_4 : decode cX7_missing 4 = .ok (.iload_n 1, 1) := by decide +kernel
theorem dX7_missing_5 : decode cX7_missing 5 = .ok (.invokevirtual 87, 3) := by decide +kernel
theorem dX7_missing_8 : decode cX7_missing 8 = .ok (.astore_n 3, 1) := by decide +kernel
theorem dX7_missing_9 : decode cX7_missing 9 = .ok (.aload_n 3, 1) := by decide +kernel
theorem dX7_missing_10 : decode cX7_missing 10 = .ok (.ifnull 12, 3) := by decide +kernel
theorem dX7_missing_13 : decode cX7_missing 13 = .ok (.iload_n 2, 1) := by decide +kernel
theorem dX7_missing_14 : decode cX7_missing 14 = .ok (.iconst 0, 1) := by decide +kernel
theorem dX7_missing_15 : decode cX7_missing 15 = .ok (.iconst 1, 1) := by decide +kernel
theorem dX7_missing_16 : decode cX7_missing 16 = .ok (.invokestatic 69, 3) := by decide +kernel
theorem dX7_missing_19 : decode cX7_missing 19 = .ok (.ifCond .ne 7, 3) := by decide +kernel
theorem dX7_missing_22 : decode cX7_missing 22 = .ok (.ldc2_w 145, 3) := by decide +kernel
theorem dX7_missing_25 : decode cX7_missing 25 = .ok (.lreturn, 1) := by decide +kernel
theorem dX7_missing_26 : decode cX7_missing 26 = .ok (.aload_n 3, 1) := by decide +kernel
theorem dX7_missing_27 : decode cX7_missing 27 = .ok (.getfield 136, 3) := by decide +kernel
theorem dX7_missing_30 : decode cX7_missing 30 = .ok (.invokevirtual 166, 3) := by decide +kernel
theorem dX7_missing_33 : decode cX7_missing 33 = .ok (.lstore 4, 2) := by decide +kernel
theorem dX7_missing_35 : decode cX7_missing 35 = .ok (.iload_n 2, 1) := by decide +kernel
theorem dX7_missing_36 : decode cX7_missing 36 = .ok (.ifCond .ne 8, 3) := by decide +kernel
theorem dX7_missing_39 : decode cX7_missing 39 = .ok (.lload 4, 2) := by decide +kernel
theorem dX7_missing_41 : decode cX7_missing 41 = .ok (.goto 13, 3) := by decide +kernel
theorem dX7_missing_44 : decode cX7_missing 44 = .ok (.lload 4, 2) := by decide +kernel
theorem dX7_missing_46 : decode cX7_missing 46 = .ok (.aload_n 3, 1) := by decide +kernel
theorem dX7_missing_47 : decode cX7_missing 47 = .ok (.getfield 136, 3) := by decide +kernel
theorem dX7_missing_50 : decode cX7_missing 50 = .ok (.invokevirtual 170, 3) := by decide +kernel
theorem dX7_missing_53 : decode cX7_missing 53 = .ok (.ladd, 1) := by decide +kernel
theorem dX7_missing_54 : decode cX7_missing 54 = .ok (.lreturn, 1) := by decide +kernel
theorem dX7_foretold_0 : decode cX7_foretold 0 = .ok (.iload_n 1, 1) := by decide +kernel
theorem dX7_foretold_1 : decode cX7_foretold 1 = .ok (.iconst 1, 1) := by decide +kernel
theorem dX7_foretold_2 : decode cX7_foretold 2 = .ok (.bipush 24, 2) := by decide +kernel
theorem dX7_foretold_4 : decode cX7_foretold 4 = .ok (.invokestatic 69, 3) := by decide +kernel
theorem dX7_foretold_7 : decode cX7_foretold 7 = .ok (.ifCond .ne 7, 3) := by decide +kernel
theorem dX7_foretold_10 : decode cX7_foretold 10 = .ok (.ldc2_w 145, 3) := by decide +kernel
theorem dX7_foretold_13 : decode cX7_foretold 13 = .ok (.lreturn, 1) := by decide +kernel
theorem dX7_foretold_14 : decode cX7_foretold 14 = .ok (.aload_n 0, 1) := by decide +kernel
theorem dX7_foretold_15 : decode cX7_foretold 15 = .ok (.getfield 30, 3) := by decide +kernel
theorem dX7_foretold_18 : decode cX7_foretold 18 = .ok (.aload_n 0, 1) := by decide +kernel
theorem dX7_foretold_19 : decode cX7_foretold 19 = .ok (.getfield 26, 3) := by decide +kernel
theorem dX7_foretold_22 : decode cX7_foretold 22 = .ok (.invokevirtual 173, 3) := by decide +kernel
theorem dX7_foretold_25 : decode cX7_foretold 25 = .ok (.aload_n 0, 1) := by decide +kernel
theorem dX7_foretold_26 : decode cX7_foretold 26 = .ok (.getfield 30, 3) := by decide +kernel
theorem dX7_foretold_29 : decode cX7_foretold 29 = .ok (.iload_n 1, 1) := by decide +kernel
theorem dX7_foretold_30 : decode cX7_foretold 30 = .ok (.aload_n 0, 1) := by decide +kernel
theorem dX7_foretold_31 : decode cX7_foretold 31 = .ok (.getfield 19, 3) := by decide +kernel
theorem dX7_foretold_34 : decode cX7_foretold 34 = .ok (.invokevirtual 113, 3) := by decide +kernel
theorem dX7_foretold_37 : decode cX7_foretold 37 = .ok (.lreturn, 1) := by decide +kernel
theorem dX7_best_0 : decode cX7_best 0 = .ok (.aload_n 0, 1) := by decide +kernel
theorem dX7_best_1 : decode cX7_best 1 = .ok (.getfield 26, 3) := by decide +kernel
theorem dX7_best_4 : decode cX7_best 4 = .ok (.iload_n 1, 1) := by decide +kernel
theorem dX7_best_5 : decode cX7_best 5 = .ok (.invokevirtual 87, 3) := by decide +kernel
theorem dX7_best_8 : decode cX7_best 8 = .ok (.ifnull 13, 3) := by decide +kernel
theorem dX7_best_11 : decode cX7_best 11 = .ok (.iload_n 2, 1) := by decide +kernel
theorem dX7_best_12 : decode cX7_best 12 = .ok (.iconst 1, 1) := by decide +kernel
theorem dX7_best_13 : decode cX7_best 13 = .ok (.bipush 24, 2) := by decide +kernel
theorem dX7_best_15 : decode cX7_best 15 = .ok (.invokestatic 69, 3) := by decide +kernel
theorem dX7_best_18 : decode cX7_best 18 = .ok (.ifCond .ne 5, 3) := by decide +kernel
theorem dX7_best_21 : decode cX7_best 21 = .ok (.iconst (-1), 1) := by decide +kernel
theorem dX7_best_22 : decode cX7_best 22 = .ok (.ireturn, 1) := by decide +kernel
theorem dX7_best_23 : decode cX7_best 23 = .ok (.aload_n 0, 1) := by decide +kernel
theorem dX7_best_24 : decode cX7_best 24 = .ok (.getfield 30, 3) := by decide +kernel
theorem dX7_best_27 : decode cX7_best 27 = .ok (.aload_n 0, 1) := by decide +kernel
theorem dX7_best_28 : decode cX7_best 28 = .ok (.getfield 26, 3) := by decide +kernel
theorem dX7_best_31 : decode cX7_best 31 = .ok (.invokevirtual 173, 3) := by decide +kernel
theorem dX7_best_34 : decode cX7_best 34 = .ok (.aload_n 0, 1) := by decide +kernel
theorem dX7_best_35 : decode cX7_best 35 = .ok (.getfield 30, 3) := by decide +kernel
theorem dX7_best_38 : decode cX7_best 38 = .ok (.iload_n 2, 1) := by decide +kernel
theorem dX7_best_39 : decode cX7_best 39 = .ok (.aload_n 0, 1) := by decide +kernel
theorem dX7_best_40 : decode cX7_best 40 = .ok (.getfield 19, 3) := by decide +kernel
theorem dX7_best_43 : decode cX7_best 43 = .ok (.invokevirtual 113, 3) := by decide +kernel
theorem dX7_best_46 : decode cX7_best 46 = .ok (.lstore_n 3, 1) := by decide +kernel
theorem dX7_best_47 : decode cX7_best 47 = .ok (.iconst (-1), 1) := by decide +kernel
theorem dX7_best_48 : decode cX7_best 48 = .ok (.istore 5, 2) := by decide +kernel
theorem dX7_best_50 : decode cX7_best 50 = .ok (.iconst 0, 1) := by decide +kernel
theorem dX7_best_51 : decode cX7_best 51 = .ok (.istore 6, 2) := by decide +kernel
theorem dX7_best_53 : decode cX7_best 53 = .ok (.iload 6, 2) := by decide +kernel
theorem dX7_best_55 : decode cX7_best 55 = .ok (.aload_n 0, 1) := by decide +kernel
theorem dX7_best_56 : decode cX7_best 56 = .ok (.getfield 36, 3) := by decide +kernel
theorem dX7_best_59 : decode cX7_best 59 = .ok (.invokevirtual 84, 3) := by decide +kernel
theorem dX7_best_62 : decode cX7_best 62 = .ok (.if_icmp .ge 95, 3) := by decide +kernel
theorem dX7_best_65 : decode cX7_best 65 = .ok (.lload_n 3, 1) := by decide +kernel
theorem dX7_best_66 : decode cX7_best 66 = .ok (.lconst 0, 1) := by decide +kernel
theorem dX7_best_67 : decode cX7_best 67 = .ok (.lcmp, 1) := by decide +kernel
theorem dX7_best_68 : decode cX7_best 68 = .ok (.ifCond .le 89, 3) := by decide +kernel
theorem dX7_best_71 : decode cX7_best 71 = .ok (.aload_n 0, 1) := by decide +kernel
theorem dX7_best_72 : decode cX7_best 72 = .ok (.getfield 36, 3) := by decide +kernel
theorem dX7_best_75 : decode cX7_best 75 = .ok (.iload 6, 2) := by decide +kernel
theorem dX7_best_77 : decode cX7_best 77 = .ok (.invokevirtual 117, 3) := by decide +kernel
theorem dX7_best_80 : decode cX7_best 80 = .ok (.checkcast 91, 3) := by decide +kernel
theorem dX7_best_83 : decode cX7_best 83 = .ok (.astore 7, 2) := by decide +kernel
theorem dX7_best_85 : decode cX7_best 85 = .ok (.aload_n 0, 1) := by decide +kernel
theorem dX7_best_86 : decode cX7_best 86 = .ok (.iload_n 1, 1) := by decide +kernel
theorem dX7_best_87 : decode cX7_best 87 = .ok (.aload 7, 2) := by decide +kernel
theorem dX7_best_89 : decode cX7_best 89 = .ok (.invokevirtual 128, 3) := by decide +kernel
theorem dX7_best_92 : decode cX7_best 92 = .ok (.istore 8, 2) := by decide +kernel
theorem dX7_best_94 : decode cX7_best 94 = .ok (.iload 8, 2) := by decide +kernel
theorem dX7_best_96 : decode cX7_best 96 = .ok (.iconst 1, 1) := by decide +kernel
theorem dX7_best_97 : decode cX7_best 97 = .ok (.if_icmp .lt 54, 3) := by decide +kernel
theorem dX7_best_100 : decode cX7_best 100 = .ok (.aload_n 0, 1) := by decide +kernel
theorem dX7_best_101 : decode cX7_best 101 = .ok (.getfield 30, 3) := by decide +kernel
theorem dX7_best_104 : decode cX7_best 104 = .ok (.aload_n 0, 1) := by decide +kernel
theorem dX7_best_105 : decode cX7_best 105 = .ok (.getfield 26, 3) := by decide +kernel
theorem dX7_best_108 : decode cX7_best 108 = .ok (.invokevirtual 173, 3) := by decide +kernel
theorem dX7_best_111 : decode cX7_best 111 = .ok (.aload_n 0, 1) := by decide +kernel
theorem dX7_best_112 : decode cX7_best 112 = .ok (.getfield 30, 3) := by decide +kernel
theorem dX7_best_115 : decode cX7_best 115 = .ok (.iload_n 1, 1) := by decide +kernel
theorem dX7_best_116 : decode cX7_best 116 = .ok (.aload 7, 2) := by decide +kernel
theorem dX7_best_118 : decode cX7_best 118 = .ok (.iload 8, 2) := by decide +kernel
theorem dX7_best_120 : decode cX7_best 120 = .ok (.invokevirtual 132, 3) := by decide +kernel
theorem dX7_best_123 : decode cX7_best 123 = .ok (.aload_n 0, 1) := by decide +kernel
theorem dX7_best_124 : decode cX7_best 124 = .ok (.getfield 30, 3) := by decide +kernel
theorem dX7_best_127 : decode cX7_best 127 = .ok (.iload_n 2, 1) := by decide +kernel
theorem dX7_best_128 : decode cX7_best 128 = .ok (.aload_n 0, 1) := by decide +kernel
theorem dX7_best_129 : decode cX7_best 129 = .ok (.getfield 19, 3) := by decide +kernel
theorem dX7_best_132 : decode cX7_best 132 = .ok (.invokevirtual 113, 3) := by decide +kernel
theorem dX7_best_135 : decode cX7_best 135 = .ok (.lstore 9, 2) := by decide +kernel
theorem dX7_best_137 : decode cX7_best 137 = .ok (.lload 9, 2) := by decide +kernel
theorem dX7_best_139 : decode cX7_best 139 = .ok (.lload_n 3, 1) := by decide +kernel
theorem dX7_best_140 : decode cX7_best 140 = .ok (.lcmp, 1) := by decide +kernel
theorem dX7_best_141 : decode cX7_best 141 = .ok (.ifCond .ge 10, 3) := by decide +kernel
theorem dX7_best_144 : decode cX7_best 144 = .ok (.lload 9, 2) := by decide +kernel
theorem dX7_best_146 : decode cX7_best 146 = .ok (.lstore_n 3, 1) := by decide +kernel
theorem dX7_best_147 : decode cX7_best 147 = .ok (.iload 6, 2) := by decide +kernel
theorem dX7_best_149 : decode cX7_best 149 = .ok (.istore 5, 2) := by decide +kernel
theorem dX7_best_151 : decode cX7_best 151 = .ok (.iinc 6 1, 3) := by decide +kernel
theorem dX7_best_154 : decode cX7_best 154 = .ok (.goto (-101), 3) := by decide +kernel
theorem dX7_best_157 : decode cX7_best 157 = .ok (.iload 5, 2) := by decide +kernel
theorem dX7_best_159 : decode cX7_best 159 = .ok (.ireturn, 1) := by decide +kernel
theorem dX7_look_0 : decode cX7_look 0 = .ok (.aload_n 0, 1) := by decide +kernel
theorem dX7_look_1 : decode cX7_look 1 = .ok (.getfield 26, 3) := by decide +kernel
theorem dX7_look_4 : decode cX7_look 4 = .ok (.iload_n 1, 1) := by decide +kernel
theorem dX7_look_5 : decode cX7_look 5 = .ok (.invokevirtual 87, 3) := by decide +kernel
theorem dX7_look_8 : decode cX7_look 8 = .ok (.astore_n 3, 1) := by decide +kernel
theorem dX7_look_9 : decode cX7_look 9 = .ok (.aload_n 3, 1) := by decide +kernel
theorem dX7_look_10 : decode cX7_look 10 = .ok (.ifnonnull 7, 3) := by decide +kernel
theorem dX7_look_13 : decode cX7_look 13 = .ok (.ldc2_w 145, 3) := by decide +kernel
theorem dX7_look_16 : decode cX7_look 16 = .ok (.lreturn, 1) := by decide +kernel
theorem dX7_look_17 : decode cX7_look 17 = .ok (.iload_n 2, 1) := by decide +kernel
theorem dX7_look_18 : decode cX7_look 18 = .ok (.tableswitch 148 0 12 #[66, 72, 77, 86, 92, 101, 110, 118, 123, 128, 133, 138, 143], 66) := by decide +kernel
theorem dX7_look_84 : decode cX7_look 84 = .ok (.aload_n 3, 1) := by decide +kernel
theorem dX7_look_85 : decode cX7_look 85 = .ok (.getfield 177, 3) := by decide +kernel
theorem dX7_look_88 : decode cX7_look 88 = .ok (.i2l, 1) := by decide +kernel
theorem dX7_look_89 : decode cX7_look 89 = .ok (.lreturn, 1) := by decide +kernel
theorem dX7_look_90 : decode cX7_look 90 = .ok (.aload_n 3, 1) := by decide +kernel
theorem dX7_look_91 : decode cX7_look 91 = .ok (.getfield 180, 3) := by decide +kernel
theorem dX7_look_94 : decode cX7_look 94 = .ok (.lreturn, 1) := by decide +kernel
theorem dX7_look_95 : decode cX7_look 95 = .ok (.aload_n 3, 1) := by decide +kernel
theorem dX7_look_96 : decode cX7_look 96 = .ok (.getfield 136, 3) := by decide +kernel
theorem dX7_look_99 : decode cX7_look 99 = .ok (.invokevirtual 183, 3) := by decide +kernel
theorem dX7_look_102 : decode cX7_look 102 = .ok (.i2l, 1) := by decide +kernel
theorem dX7_look_103 : decode cX7_look 103 = .ok (.lreturn, 1) := by decide +kernel
theorem dX7_look_104 : decode cX7_look 104 = .ok (.aload_n 3, 1) := by decide +kernel
theorem dX7_look_105 : decode cX7_look 105 = .ok (.invokevirtual 186, 3) := by decide +kernel
theorem dX7_look_108 : decode cX7_look 108 = .ok (.i2l, 1) := by decide +kernel
theorem dX7_look_109 : decode cX7_look 109 = .ok (.lreturn, 1) := by decide +kernel
theorem dX7_look_110 : decode cX7_look 110 = .ok (.aload_n 3, 1) := by decide +kernel
theorem dX7_look_111 : decode cX7_look 111 = .ok (.getfield 136, 3) := by decide +kernel
theorem dX7_look_114 : decode cX7_look 114 = .ok (.invokevirtual 189, 3) := by decide +kernel
theorem dX7_look_117 : decode cX7_look 117 = .ok (.i2l, 1) := by decide +kernel
theorem dX7_look_118 : decode cX7_look 118 = .ok (.lreturn, 1) := by decide +kernel
theorem dX7_look_119 : decode cX7_look 119 = .ok (.aload_n 3, 1) := by decide +kernel
theorem dX7_look_120 : decode cX7_look 120 = .ok (.getfield 136, 3) := by decide +kernel
theorem dX7_look_123 : decode cX7_look 123 = .ok (.invokevirtual 140, 3) := by decide +kernel
theorem dX7_look_126 : decode cX7_look 126 = .ok (.i2l, 1) := by decide +kernel
theorem dX7_look_127 : decode cX7_look 127 = .ok (.lreturn, 1) := by decide +kernel
theorem dX7_look_128 : decode cX7_look 128 = .ok (.aload_n 3, 1) := by decide +kernel
theorem dX7_look_129 : decode cX7_look 129 = .ok (.getfield 136, 3) := by decide +kernel
theorem dX7_look_132 : decode cX7_look 132 = .ok (.invokevirtual 192, 3) := by decide +kernel
theorem dX7_look_135 : decode cX7_look 135 = .ok (.lreturn, 1) := by decide +kernel
theorem dX7_look_136 : decode cX7_look 136 = .ok (.aload_n 3, 1) := by decide +kernel
theorem dX7_look_137 : decode cX7_look 137 = .ok (.getfield 195, 3) := by decide +kernel
theorem dX7_look_140 : decode cX7_look 140 = .ok (.lreturn, 1) := by decide +kernel
theorem dX7_look_141 : decode cX7_look 141 = .ok (.aload_n 3, 1) := by decide +kernel
theorem dX7_look_142 : decode cX7_look 142 = .ok (.getfield 198, 3) := by decide +kernel
theorem dX7_look_145 : decode cX7_look 145 = .ok (.lreturn, 1) := by decide +kernel
theorem dX7_look_146 : decode cX7_look 146 = .ok (.aload_n 3, 1) := by decide +kernel
theorem dX7_look_147 : decode cX7_look 147 = .ok (.getfield 151, 3) := by decide +kernel
theorem dX7_look_150 : decode cX7_look 150 = .ok (.lreturn, 1) := by decide +kernel
theorem dX7_look_151 : decode cX7_look 151 = .ok (.aload_n 3, 1) := by decide +kernel
theorem dX7_look_152 : decode cX7_look 152 = .ok (.getfield 201, 3) := by decide +kernel
theorem dX7_look_155 : decode cX7_look 155 = .ok (.lreturn, 1) := by decide +kernel
theorem dX7_look_156 : decode cX7_look 156 = .ok (.aload_n 3, 1) := by decide +kernel
theorem dX7_look_157 : decode cX7_look 157 = .ok (.getfield 204, 3) := by decide +kernel
theorem dX7_look_160 : decode cX7_look 160 = .ok (.lreturn, 1) := by decide +kernel
theorem dX7_look_161 : decode cX7_look 161 = .ok (.aload_n 3, 1) := by decide +kernel
theorem dX7_look_162 : decode cX7_look 162 = .ok (.getfield 157, 3) := by decide +kernel
theorem dX7_look_165 : decode cX7_look 165 = .ok (.lreturn, 1) := by decide +kernel
theorem dX7_look_166 : decode cX7_look 166 = .ok (.ldc2_w 145, 3) := by decide +kernel
theorem dX7_look_169 : decode cX7_look 169 = .ok (.lreturn, 1) := by decide +kernel
theorem dX7_lot_0 : decode cX7_lot 0 = .ok (.aload_n 0, 1) := by decide +kernel
theorem dX7_lot_1 : decode cX7_lot 1 = .ok (.getfield 26, 3) := by decide +kernel
theorem dX7_lot_4 : decode cX7_lot 4 = .ok (.iload_n 1, 1) := by decide +kernel
theorem dX7_lot_5 : decode cX7_lot 5 = .ok (.invokevirtual 87, 3) := by decide +kernel
theorem dX7_lot_8 : decode cX7_lot 8 = .ok (.astore 4, 2) := by decide +kernel
theorem dX7_lot_10 : decode cX7_lot 10 = .ok (.aload 4, 2) := by decide +kernel
theorem dX7_lot_12 : decode cX7_lot 12 = .ok (.ifnull 15, 3) := by decide +kernel
theorem dX7_lot_15 : decode cX7_lot 15 = .ok (.aload 4, 2) := by decide +kernel
theorem dX7_lot_17 : decode cX7_lot 17 = .ok (.getfield 136, 3) := by decide +kernel
theorem dX7_lot_20 : decode cX7_lot 20 = .ok (.iload_n 2, 1) := by decide +kernel
theorem dX7_lot_21 : decode cX7_lot 21 = .ok (.invokevirtual 160, 3) := by decide +kernel
theorem dX7_lot_24 : decode cX7_lot 24 = .ok (.ifCond .ne 5, 3) := by decide +kernel
theorem dX7_lot_27 : decode cX7_lot 27 = .ok (.iconst (-1), 1) := by decide +kernel
theorem dX7_lot_28 : decode cX7_lot 28 = .ok (.ireturn, 1) := by decide +kernel
theorem dX7_lot_29 : decode cX7_lot 29 = .ok (.iload_n 3, 1) := by decide +kernel
theorem dX7_lot_30 : decode cX7_lot 30 = .ok (.tableswitch 56 0 2 #[26, 36, 46], 26) := by decide +kernel
theorem dX7_lot_56 : decode cX7_lot 56 = .ok (.aload 4, 2) := by decide +kernel
theorem dX7_lot_58 : decode cX7_lot 58 = .ok (.getfield 136, 3) := by decide +kernel
theorem dX7_lot_61 : decode cX7_lot 61 = .ok (.iload_n 2, 1) := by decide +kernel
theorem dX7_lot_62 : decode cX7_lot 62 = .ok (.invokevirtual 207, 3) := by decide +kernel
theorem dX7_lot_65 : decode cX7_lot 65 = .ok (.ireturn, 1) := by decide +kernel
theorem dX7_lot_66 : decode cX7_lot 66 = .ok (.aload 4, 2) := by decide +kernel
theorem dX7_lot_68 : decode cX7_lot 68 = .ok (.getfield 136, 3) := by decide +kernel
theorem dX7_lot_71 : decode cX7_lot 71 = .ok (.iload_n 2, 1) := by decide +kernel
theorem dX7_lot_72 : decode cX7_lot 72 = .ok (.invokevirtual 210, 3) := by decide +kernel
theorem dX7_lot_75 : decode cX7_lot 75 = .ok (.ireturn, 1) := by decide +kernel
theorem dX7_lot_76 : decode cX7_lot 76 = .ok (.aload 4, 2) := by decide +kernel
theorem dX7_lot_78 : decode cX7_lot 78 = .ok (.getfield 136, 3) := by decide +kernel
theorem dX7_lot_81 : decode cX7_lot 81 = .ok (.iload_n 2, 1) := by decide +kernel
theorem dX7_lot_82 : decode cX7_lot 82 = .ok (.invokevirtual 213, 3) := by decide +kernel
theorem dX7_lot_85 : decode cX7_lot 85 = .ok (.ireturn, 1) := by decide +kernel
theorem dX7_lot_86 : decode cX7_lot 86 = .ok (.iconst (-1), 1) := by decide +kernel
theorem dX7_lot_87 : decode cX7_lot 87 = .ok (.ireturn, 1) := by decide +kernel
theorem dX7_count_0 : decode cX7_count 0 = .ok (.iload_n 1, 1) := by decide +kernel
theorem dX7_count_1 : decode cX7_count 1 = .ok (.tableswitch 103 0 6 #[43, 52, 61, 70, 78, 86, 95], 43) := by decide +kernel
theorem dX7_count_44 : decode cX7_count 44 = .ok (.aload_n 0, 1) := by decide +kernel
theorem dX7_count_45 : decode cX7_count 45 = .ok (.getfield 26, 3) := by decide +kernel
theorem dX7_count_48 : decode cX7_count 48 = .ok (.getfield 110, 3) := by decide +kernel
theorem dX7_count_51 : decode cX7_count 51 = .ok (.i2l, 1) := by decide +kernel
theorem dX7_count_52 : decode cX7_count 52 = .ok (.lreturn, 1) := by decide +kernel
theorem dX7_count_53 : decode cX7_count 53 = .ok (.aload_n 0, 1) := by decide +kernel
theorem dX7_count_54 : decode cX7_count 54 = .ok (.getfield 26, 3) := by decide +kernel
theorem dX7_count_57 : decode cX7_count 57 = .ok (.invokevirtual 66, 3) := by decide +kernel
theorem dX7_count_60 : decode cX7_count 60 = .ok (.i2l, 1) := by decide +kernel
theorem dX7_count_61 : decode cX7_count 61 = .ok (.lreturn, 1) := by decide +kernel
theorem dX7_count_62 : decode cX7_count 62 = .ok (.aload_n 0, 1) := by decide +kernel
theorem dX7_count_63 : decode cX7_count 63 = .ok (.getfield 36, 3) := by decide +kernel
theorem dX7_count_66 : decode cX7_count 66 = .ok (.invokevirtual 84, 3) := by decide +kernel
theorem dX7_count_69 : decode cX7_count 69 = .ok (.i2l, 1) := by decide +kernel
theorem dX7_count_70 : decode cX7_count 70 = .ok (.lreturn, 1) := by decide +kernel
theorem dX7_count_71 : decode cX7_count 71 = .ok (.aload_n 0, 1) := by decide +kernel
theorem dX7_count_72 : decode cX7_count 72 = .ok (.getfield 26, 3) := by decide +kernel
theorem dX7_count_75 : decode cX7_count 75 = .ok (.getfield 102, 3) := by decide +kernel
theorem dX7_count_78 : decode cX7_count 78 = .ok (.lreturn, 1) := by decide +kernel
theorem dX7_count_79 : decode cX7_count 79 = .ok (.aload_n 0, 1) := by decide +kernel
theorem dX7_count_80 : decode cX7_count 80 = .ok (.getfield 26, 3) := by decide +kernel
theorem dX7_count_83 : decode cX7_count 83 = .ok (.invokevirtual 216, 3) := by decide +kernel
theorem dX7_count_86 : decode cX7_count 86 = .ok (.lreturn, 1) := by decide +kernel
theorem dX7_count_87 : decode cX7_count 87 = .ok (.aload_n 0, 1) := by decide +kernel
theorem dX7_count_88 : decode cX7_count 88 = .ok (.getfield 10, 3) := by decide +kernel
theorem dX7_count_91 : decode cX7_count 91 = .ok (.invokevirtual 48, 3) := by decide +kernel
theorem dX7_count_94 : decode cX7_count 94 = .ok (.i2l, 1) := by decide +kernel
theorem dX7_count_95 : decode cX7_count 95 = .ok (.lreturn, 1) := by decide +kernel
theorem dX7_count_96 : decode cX7_count 96 = .ok (.aload_n 0, 1) := by decide +kernel
theorem dX7_count_97 : decode cX7_count 97 = .ok (.getfield 26, 3) := by decide +kernel
theorem dX7_count_100 : decode cX7_count 100 = .ok (.invokevirtual 219, 3) := by decide +kernel
theorem dX7_count_103 : decode cX7_count 103 = .ok (.lreturn, 1) := by decide +kernel
theorem dX7_count_104 : decode cX7_count 104 = .ok (.aload_n 0, 1) := by decide +kernel
theorem dX7_count_105 : decode cX7_count 105 = .ok (.iload_n 1, 1) := by decide +kernel
theorem dX7_count_106 : decode cX7_count 106 = .ok (.invokevirtual 222, 3) := by decide +kernel
theorem dX7_count_109 : decode cX7_count 109 = .ok (.lreturn, 1) := by decide +kernel
theorem dX7_takenByRoad_0 : decode cX7_takenByRoad 0 = .ok (.iload_n 1, 1) := by decide +kernel
theorem dX7_takenByRoad_1 : decode cX7_takenByRoad 1 = .ok (.bipush 10, 2) := by decide +kernel
theorem dX7_takenByRoad_3 : decode cX7_takenByRoad 3 = .ok (.if_icmp .ge 7, 3) := by decide +kernel
theorem dX7_takenByRoad_6 : decode cX7_takenByRoad 6 = .ok (.ldc2_w 145, 3) := by decide +kernel
theorem dX7_takenByRoad_9 : decode cX7_takenByRoad 9 = .ok (.lreturn, 1) := by decide +kernel
theorem dX7_takenByRoad_10 : decode cX7_takenByRoad 10 = .ok (.aload_n 0, 1) := by decide +kernel
theorem dX7_takenByRoad_11 : decode cX7_takenByRoad 11 = .ok (.iload_n 1, 1) := by decide +kernel
theorem dX7_takenByRoad_12 : decode cX7_takenByRoad 12 = .ok (.bipush 10, 2) := by decide +kernel
theorem dX7_takenByRoad_14 : decode cX7_takenByRoad 14 = .ok (.isub, 1) := by decide +kernel
theorem dX7_takenByRoad_15 : decode cX7_takenByRoad 15 = .ok (.invokevirtual 124, 3) := by decide +kernel
theorem dX7_takenByRoad_18 : decode cX7_takenByRoad 18 = .ok (.astore_n 2, 1) := by decide +kernel
theorem dX7_takenByRoad_19 : decode cX7_takenByRoad 19 = .ok (.aload_n 2, 1) := by decide +kernel
theorem dX7_takenByRoad_20 : decode cX7_takenByRoad 20 = .ok (.ifnonnull 9, 3) := by decide +kernel
theorem dX7_takenByRoad_23 : decode cX7_takenByRoad 23 = .ok (.ldc2_w 145, 3) := by decide +kernel
theorem dX7_takenByRoad_26 : decode cX7_takenByRoad 26 = .ok (.goto 8, 3) := by decide +kernel
theorem dX7_takenByRoad_29 : decode cX7_takenByRoad 29 = .ok (.aload_n 2, 1) := by decide +kernel
theorem dX7_takenByRoad_30 : decode cX7_takenByRoad 30 = .ok (.getfield 121, 3) := by decide +kernel
theorem dX7_takenByRoad_33 : decode cX7_takenByRoad 33 = .ok (.i2l, 1) := by decide +kernel
theorem dX7_takenByRoad_34 : decode cX7_takenByRoad 34 = .ok (.lreturn, 1) := by decide +kernel
theorem dX7_roadAt_0 : decode cX7_roadAt 0 = .ok (.iload_n 1, 1) := by decide +kernel
theorem dX7_roadAt_1 : decode cX7_roadAt 1 = .ok (.ifCond .lt 14, 3) := by decide +kernel
theorem dX7_roadAt_4 : decode cX7_roadAt 4 = .ok (.iload_n 1, 1) := by decide +kernel
theorem dX7_roadAt_5 : decode cX7_roadAt 5 = .ok (.aload_n 0, 1) := by decide +kernel
theorem dX7_roadAt_6 : decode cX7_roadAt 6 = .ok (.getfield 36, 3) := by decide +kernel
theorem dX7_roadAt_9 : decode cX7_roadAt 9 = .ok (.invokevirtual 84, 3) := by decide +kernel
theorem dX7_roadAt_12 : decode cX7_roadAt 12 = .ok (.if_icmp .lt 7, 3) := by decide +kernel
theorem dX7_roadAt_15 : decode cX7_roadAt 15 = .ok (.aconst_null, 1) := by decide +kernel
theorem dX7_roadAt_16 : decode cX7_roadAt 16 = .ok (.goto 14, 3) := by decide +kernel
theorem dX7_roadAt_19 : decode cX7_roadAt 19 = .ok (.aload_n 0, 1) := by decide +kernel
theorem dX7_roadAt_20 : decode cX7_roadAt 20 = .ok (.getfield 36, 3) := by decide +kernel
theorem dX7_roadAt_23 : decode cX7_roadAt 23 = .ok (.iload_n 1, 1) := by decide +kernel
theorem dX7_roadAt_24 : decode cX7_roadAt 24 = .ok (.invokevirtual 117, 3) := by decide +kernel
theorem dX7_roadAt_27 : decode cX7_roadAt 27 = .ok (.checkcast 91, 3) := by decide +kernel
theorem dX7_roadAt_30 : decode cX7_roadAt 30 = .ok (.areturn, 1) := by decide +kernel
theorem dX7_movable_0 : decode cX7_movable 0 = .ok (.aload_n 0, 1) := by decide +kernel
theorem dX7_movable_1 : decode cX7_movable 1 = .ok (.getfield 26, 3) := by decide +kernel
theorem dX7_movable_4 : decode cX7_movable 4 = .ok (.iload_n 1, 1) := by decide +kernel
theorem dX7_movable_5 : decode cX7_movable 5 = .ok (.invokevirtual 87, 3) := by decide +kernel
theorem dX7_movable_8 : decode cX7_movable 8 = .ok (.astore_n 3, 1) := by decide +kernel
theorem dX7_movable_9 : decode cX7_movable 9 = .ok (.aload_n 3, 1) := by decide +kernel
theorem dX7_movable_10 : decode cX7_movable 10 = .ok (.ifnull 21, 3) := by decide +kernel
theorem dX7_movable_13 : decode cX7_movable 13 = .ok (.aload_n 2, 1) := by decide +kernel
theorem dX7_movable_14 : decode cX7_movable 14 = .ok (.iload_n 1, 1) := by decide +kernel
theorem dX7_movable_15 : decode cX7_movable 15 = .ok (.invokevirtual 226, 3) := by decide +kernel
theorem dX7_movable_18 : decode cX7_movable 18 = .ok (.ifCond .eq 13, 3) := by decide +kernel
theorem dX7_movable_21 : decode cX7_movable 21 = .ok (.aload_n 0, 1) := by decide +kernel
theorem dX7_movable_22 : decode cX7_movable 22 = .ok (.getfield 26, 3) := by decide +kernel
theorem dX7_movable_25 : decode cX7_movable 25 = .ok (.invokevirtual 229, 3) := by decide +kernel
theorem dX7_movable_28 : decode cX7_movable 28 = .ok (.ifCond .ne 5, 3) := by decide +kernel
theorem dX7_movable_31 : decode cX7_movable 31 = .ok (.iconst 0, 1) := by decide +kernel
theorem dX7_movable_32 : decode cX7_movable 32 = .ok (.ireturn, 1) := by decide +kernel
theorem dX7_movable_33 : decode cX7_movable 33 = .ok (.aload_n 2, 1) := by decide +kernel
theorem dX7_movable_34 : decode cX7_movable 34 = .ok (.getfield 233, 3) := by decide +kernel
theorem dX7_movable_37 : decode cX7_movable 37 = .ok (.aload_n 2, 1) := by decide +kernel
theorem dX7_movable_38 : decode cX7_movable 38 = .ok (.getfield 121, 3) := by decide +kernel
theorem dX7_movable_41 : decode cX7_movable 41 = .ok (.isub, 1) := by decide +kernel
theorem dX7_movable_42 : decode cX7_movable 42 = .ok (.aload_n 3, 1) := by decide +kernel
theorem dX7_movable_43 : decode cX7_movable 43 = .ok (.getfield 136, 3) := by decide +kernel
theorem dX7_movable_46 : decode cX7_movable 46 = .ok (.invokevirtual 140, 3) := by decide +kernel
theorem dX7_movable_49 : decode cX7_movable 49 = .ok (.invokestatic 236, 3) := by decide +kernel
theorem dX7_movable_52 : decode cX7_movable 52 = .ok (.ireturn, 1) := by decide +kernel
theorem dX7_isWithin_0 : decode cX7_isWithin 0 = .ok (.iload_n 0, 1) := by decide +kernel
theorem dX7_isWithin_1 : decode cX7_isWithin 1 = .ok (.iload_n 1, 1) := by decide +kernel
theorem dX7_isWithin_2 : decode cX7_isWithin 2 = .ok (.if_icmp .lt 12, 3) := by decide +kernel
theorem dX7_isWithin_5 : decode cX7_isWithin 5 = .ok (.iload_n 0, 1) := by decide +kernel
theorem dX7_isWithin_6 : decode cX7_isWithin 6 = .ok (.iload_n 2, 1) := by decide +kernel
theorem dX7_isWithin_7 : decode cX7_isWithin 7 = .ok (.if_icmp .gt 7, 3) := by decide +kernel
theorem dX7_isWithin_10 : decode cX7_isWithin 10 = .ok (.iconst 1, 1) := by decide +kernel
theorem dX7_isWithin_11 : decode cX7_isWithin 11 = .ok (.goto 4, 3) := by decide +kernel
theorem dX7_isWithin_14 : decode cX7_isWithin 14 = .ok (.iconst 0, 1) := by decide +kernel
theorem dX7_isWithin_15 : decode cX7_isWithin 15 = .ok (.ireturn, 1) := by decide +kernel
