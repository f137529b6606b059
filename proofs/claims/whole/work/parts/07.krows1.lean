theorem k0_0 : Kc C0 0 = (.aload_n 0, 0, 0, 0, 0) := rfl
theorem k0_1 : Kc C0 1 = (.invokespecial 3, 1002, 0, 0, 0) := rfl
theorem k0_4 : Kc C0 4 = (.aload_n 0, 0, 0, 0, 0) := rfl
theorem k0_5 : Kc C0 5 = (.bipush 24, 0, 0, 0, 24) := rfl
theorem k0_7 : Kc C0 7 = (.anewarray 9, 4, 0, 0, 0) := rfl
theorem k0_10 : Kc C0 10 = (.putfield 11, 0, 0, 0, 0) := rfl
theorem k0_13 : Kc C0 13 = (.aload_n 0, 0, 0, 0, 0) := rfl
theorem k0_14 : Kc C0 14 = (.iconst 0, 0, 0, 0, 0) := rfl
theorem k0_15 : Kc C0 15 = (.putfield 17, 0, 1, 0, 0) := rfl
theorem k0_18 : Kc C0 18 = (.aload_n 0, 0, 0, 0, 0) := rfl
theorem k0_19 : Kc C0 19 = (.iconst 0, 0, 0, 0, 0) := rfl
theorem k0_20 : Kc C0 20 = (.putfield 21, 0, 2, 0, 0) := rfl
theorem k0_23 : Kc C0 23 = (.iconst 0, 0, 0, 0, 0) := rfl
theorem k0_24 : Kc C0 24 = (.istore_n 1, 1, 0, 0, 0) := rfl
theorem k0_25 : Kc C0 25 = (.iload_n 1, 1, 0, 0, 0) := rfl
theorem k0_26 : Kc C0 26 = (.bipush 24, 0, 0, 0, 24) := rfl
theorem k0_28 : Kc C0 28 = (.if_icmp .ge 22, 50, 0, 0, 0) := rfl
theorem k0_31 : Kc C0 31 = (.aload_n 0, 0, 0, 0, 0) := rfl
theorem k0_32 : Kc C0 32 = (.getfield 11, 0, 0, 0, 0) := rfl
theorem k0_35 : Kc C0 35 = (.iload_n 1, 1, 0, 0, 0) := rfl
theorem k0_36 : Kc C0 36 = (.new 9, 2, 0, 0, 0) := rfl
theorem k0_39 : Kc C0 39 = (.dup, 0, 0, 0, 0) := rfl
theorem k0_40 : Kc C0 40 = (.invokespecial 24, 17, 0, 6, 1) := rfl
theorem k0_43 : Kc C0 43 = (.aastore, 0, 0, 0, 0) := rfl
theorem k0_44 : Kc C0 44 = (.iinc 1 1, 1, 0, 0, 1) := rfl
theorem k0_47 : Kc C0 47 = (.goto (-22), 25, 0, 0, 0) := rfl
theorem k0_50 : Kc C0 50 = (.return_, 0, 0, 0, 0) := rfl
theorem ev0 (d : Nat) (x0 : Nat) (h : Hp) : EvM (d + 1) 0 [.ref x0] h = EvI (EvM d) C0 0 0 [.ref x0, jk] [] h := rfl
theorem k1_0 : Kc C1 0 = (.aload_n 0, 0, 0, 0, 0) := rfl
theorem k1_1 : Kc C1 1 = (.getfield 11, 0, 0, 0, 0) := rfl
theorem k1_4 : Kc C1 4 = (.aload_n 0, 0, 0, 0, 0) := rfl
theorem k1_5 : Kc C1 5 = (.getfield 17, 0, 1, 0, 0) := rfl
theorem k1_8 : Kc C1 8 = (.aaload, 0, 0, 0, 0) := rfl
theorem k1_9 : Kc C1 9 = (.aload_n 1, 1, 0, 0, 0) := rfl
theorem k1_10 : Kc C1 10 = (.invokevirtual 25, 19, 1, 6, 0) := rfl
theorem k1_13 : Kc C1 13 = (.aload_n 0, 0, 0, 0, 0) := rfl
theorem k1_14 : Kc C1 14 = (.aload_n 0, 0, 0, 0, 0) := rfl
theorem k1_15 : Kc C1 15 = (.getfield 17, 0, 1, 0, 0) := rfl
theorem k1_18 : Kc C1 18 = (.iconst 1, 0, 0, 0, 1) := rfl
theorem k1_19 : Kc C1 19 = (.iadd, 0, 0, 0, 0) := rfl
theorem k1_20 : Kc C1 20 = (.bipush 24, 0, 0, 0, 24) := rfl
theorem k1_22 : Kc C1 22 = (.irem, 0, 0, 0, 0) := rfl
theorem k1_23 : Kc C1 23 = (.putfield 17, 0, 1, 0, 0) := rfl
theorem k1_26 : Kc C1 26 = (.aload_n 0, 0, 0, 0, 0) := rfl
theorem k1_27 : Kc C1 27 = (.bipush 24, 0, 0, 0, 24) := rfl
theorem k1_29 : Kc C1 29 = (.aload_n 0, 0, 0, 0, 0) := rfl
theorem k1_30 : Kc C1 30 = (.getfield 21, 0, 2, 0, 0) := rfl
theorem k1_33 : Kc C1 33 = (.iconst 1, 0, 0, 0, 1) := rfl
theorem k1_34 : Kc C1 34 = (.iadd, 0, 0, 0, 0) := rfl
theorem k1_35 : Kc C1 35 = (.invokestatic 29, 1000, 2, 0, 0) := rfl
theorem k1_38 : Kc C1 38 = (.putfield 21, 0, 2, 0, 0) := rfl
theorem k1_41 : Kc C1 41 = (.return_, 0, 0, 0, 0) := rfl
theorem ev1 (d : Nat) (x0 : Nat) (x1 : Nat) (h : Hp) : EvM (d + 1) 1 [.ref x0, .ref x1] h = EvI (EvM d) C1 0 0 [.ref x0, .ref x1] [] h := rfl
theorem k2_0 : Kc C2 0 = (.aload_n 0, 0, 0, 0, 0) := rfl
theorem k2_1 : Kc C2 1 = (.aload_n 0, 0, 0, 0, 0) := rfl
theorem k2_2 : Kc C2 2 = (.getfield 17, 0, 1, 0, 0) := rfl
theorem k2_5 : Kc C2 5 = (.bipush 24, 0, 0, 0, 24) := rfl
theorem k2_7 : Kc C2 7 = (.iadd, 0, 0, 0, 0) := rfl
theorem k2_8 : Kc C2 8 = (.iconst 1, 0, 0, 0, 1) := rfl
theorem k2_9 : Kc C2 9 = (.isub, 0, 0, 0, 0) := rfl
theorem k2_10 : Kc C2 10 = (.bipush 24, 0, 0, 0, 24) := rfl
theorem k2_12 : Kc C2 12 = (.irem, 0, 0, 0, 0) := rfl
theorem k2_13 : Kc C2 13 = (.putfield 17, 0, 1, 0, 0) := rfl
theorem k2_16 : Kc C2 16 = (.aload_n 0, 0, 0, 0, 0) := rfl
theorem k2_17 : Kc C2 17 = (.dup, 0, 0, 0, 0) := rfl
theorem k2_18 : Kc C2 18 = (.getfield 21, 0, 2, 0, 0) := rfl
theorem k2_21 : Kc C2 21 = (.iconst 1, 0, 0, 0, 1) := rfl
theorem k2_22 : Kc C2 22 = (.isub, 0, 0, 0, 0) := rfl
theorem k2_23 : Kc C2 23 = (.putfield 21, 0, 2, 0, 0) := rfl
theorem k2_26 : Kc C2 26 = (.aload_n 1, 1, 0, 0, 0) := rfl
theorem k2_27 : Kc C2 27 = (.aload_n 0, 0, 0, 0, 0) := rfl
theorem k2_28 : Kc C2 28 = (.getfield 11, 0, 0, 0, 0) := rfl
theorem k2_31 : Kc C2 31 = (.aload_n 0, 0, 0, 0, 0) := rfl
theorem k2_32 : Kc C2 32 = (.getfield 17, 0, 1, 0, 0) := rfl
theorem k2_35 : Kc C2 35 = (.aaload, 0, 0, 0, 0) := rfl
theorem k2_36 : Kc C2 36 = (.invokevirtual 25, 19, 1, 6, 0) := rfl
theorem k2_39 : Kc C2 39 = (.return_, 0, 0, 0, 0) := rfl
theorem ev2 (d : Nat) (x0 : Nat) (x1 : Nat) (h : Hp) : EvM (d + 1) 2 [.ref x0, .ref x1] h = EvI (EvM d) C2 0 0 [.ref x0, .ref x1] [] h := rfl
theorem k3_0 : Kc C3 0 = (.aload_n 0, 0, 0, 0, 0) := rfl
theorem k3_1 : Kc C3 1 = (.invokespecial 3, 1002, 0, 0, 0) := rfl
theorem k3_4 : Kc C3 4 = (.aload_n 0, 0, 0, 0, 0) := rfl
theorem k3_5 : Kc C3 5 = (.bipush 16, 0, 0, 0, 16) := rfl
theorem k3_7 : Kc C3 7 = (.newarray .int, 0, 0, 0, 0) := rfl
theorem k3_9 : Kc C3 9 = (.putfield 9, 1, 0, 0, 0) := rfl
theorem k3_12 : Kc C3 12 = (.aload_n 0, 0, 0, 0, 0) := rfl
theorem k3_13 : Kc C3 13 = (.iconst 0, 0, 0, 0, 0) := rfl
theorem k3_14 : Kc C3 14 = (.putfield 15, 1, 1, 0, 0) := rfl
theorem k3_17 : Kc C3 17 = (.return_, 0, 0, 0, 0) := rfl
theorem ev3 (d : Nat) (x0 : Nat) (h : Hp) : EvM (d + 1) 3 [.ref x0] h = EvI (EvM d) C3 0 0 [.ref x0] [] h := rfl
theorem k4_0 : Kc C4 0 = (.aload_n 0, 0, 0, 0, 0) := rfl
theorem k4_1 : Kc C4 1 = (.getfield 15, 1, 1, 0, 0) := rfl
theorem k4_4 : Kc C4 4 = (.bipush 16, 0, 0, 0, 16) := rfl
theorem k4_6 : Kc C4 6 = (.if_icmp .ge 23, 29, 0, 0, 0) := rfl
theorem k4_9 : Kc C4 9 = (.aload_n 0, 0, 0, 0, 0) := rfl
theorem k4_10 : Kc C4 10 = (.getfield 9, 1, 0, 0, 0) := rfl
theorem k4_13 : Kc C4 13 = (.aload_n 0, 0, 0, 0, 0) := rfl
theorem k4_14 : Kc C4 14 = (.getfield 15, 1, 1, 0, 0) := rfl
theorem k4_17 : Kc C4 17 = (.iload_n 1, 1, 0, 0, 0) := rfl
theorem k4_18 : Kc C4 18 = (.iastore, 0, 0, 0, 0) := rfl
theorem k4_19 : Kc C4 19 = (.aload_n 0, 0, 0, 0, 0) := rfl
theorem k4_20 : Kc C4 20 = (.dup, 0, 0, 0, 0) := rfl
theorem k4_21 : Kc C4 21 = (.getfield 15, 1, 1, 0, 0) := rfl
theorem k4_24 : Kc C4 24 = (.iconst 1, 0, 0, 0, 1) := rfl
theorem k4_25 : Kc C4 25 = (.iadd, 0, 0, 0, 0) := rfl
theorem k4_26 : Kc C4 26 = (.putfield 15, 1, 1, 0, 0) := rfl
theorem k4_29 : Kc C4 29 = (.return_, 0, 0, 0, 0) := rfl
theorem ev4 (d : Nat) (x0 : Nat) (x1 : Int32) (h : Hp) : EvM (d + 1) 4 [.ref x0, .int x1] h = EvI (EvM d) C4 0 0 [.ref x0, .int x1] [] h := rfl
theorem k5_0 : Kc C5 0 = (.iload_n 2, 2, 0, 0, 0) := rfl
theorem k5_1 : Kc C5 1 = (.bipush 8, 0, 0, 0, 8) := rfl
theorem k5_3 : Kc C5 3 = (.if_icmp .le 6, 9, 0, 0, 0) := rfl
theorem k5_6 : Kc C5 6 = (.ldc 19, 0, 0, 0, (-1000000)) := rfl
theorem k5_8 : Kc C5 8 = (.ireturn, 0, 0, 0, 0) := rfl
theorem k5_9 : Kc C5 9 = (.aload_n 1, 1, 0, 0, 0) := rfl
theorem k5_10 : Kc C5 10 = (.getfield 20, 4, 1, 0, 0) := rfl
theorem k5_13 : Kc C5 13 = (.tableswitch 61 1 5 #[35, 42, 35, 49, 55], 0, 0, 0, 0) := rfl
theorem k5_48 : Kc C5 48 = (.aload_n 0, 0, 0, 0, 0) := rfl
theorem k5_49 : Kc C5 49 = (.aload_n 1, 1, 0, 0, 0) := rfl
theorem k5_50 : Kc C5 50 = (.iload_n 2, 2, 0, 0, 0) := rfl
theorem k5_51 : Kc C5 51 = (.invokevirtual 25, 8, 2, 4, 0) := rfl
theorem k5_54 : Kc C5 54 = (.ireturn, 0, 0, 0, 0) := rfl
theorem k5_55 : Kc C5 55 = (.aload_n 0, 0, 0, 0, 0) := rfl
theorem k5_56 : Kc C5 56 = (.aload_n 1, 1, 0, 0, 0) := rfl
theorem k5_57 : Kc C5 57 = (.iload_n 2, 2, 0, 0, 0) := rfl
theorem k5_58 : Kc C5 58 = (.invokevirtual 29, 9, 2, 4, 0) := rfl
theorem k5_61 : Kc C5 61 = (.ireturn, 0, 0, 0, 0) := rfl
theorem k5_62 : Kc C5 62 = (.aload_n 0, 0, 0, 0, 0) := rfl
theorem k5_63 : Kc C5 63 = (.aload_n 1, 1, 0, 0, 0) := rfl
theorem k5_64 : Kc C5 64 = (.invokevirtual 32, 10, 1, 4, 0) := rfl
theorem k5_67 : Kc C5 67 = (.ireturn, 0, 0, 0, 0) := rfl
theorem k5_68 : Kc C5 68 = (.aload_n 0, 0, 0, 0, 0) := rfl
theorem k5_69 : Kc C5 69 = (.aload_n 1, 1, 0, 0, 0) := rfl
theorem k5_70 : Kc C5 70 = (.invokevirtual 36, 11, 1, 4, 0) := rfl
theorem k5_73 : Kc C5 73 = (.ireturn, 0, 0, 0, 0) := rfl
theorem k5_74 : Kc C5 74 = (.aload_n 0, 0, 0, 0, 0) := rfl
theorem k5_75 : Kc C5 75 = (.aload_n 1, 1, 0, 0, 0) := rfl
theorem k5_76 : Kc C5 76 = (.invokevirtual 39, 7, 1, 4, 0) := rfl
theorem k5_79 : Kc C5 79 = (.ireturn, 0, 0, 0, 0) := rfl
theorem ev5 (d : Nat) (x0 : Nat) (x1 : Nat) (x2 : Int32) (h : Hp) : EvM (d + 1) 5 [.ref x0, .ref x1, .int x2] h = EvI (EvM d) C5 1 0 [.ref x0, .ref x1, .int x2] [] h := rfl
theorem k6_0 : Kc C6 0 = (.iload_n 2, 2, 0, 0, 0) := rfl
theorem k6_1 : Kc C6 1 = (.bipush 8, 0, 0, 0, 8) := rfl
theorem k6_3 : Kc C6 3 = (.if_icmp .le 6, 9, 0, 0, 0) := rfl
theorem k6_6 : Kc C6 6 = (.ldc 19, 0, 0, 0, (-1000000)) := rfl
theorem k6_8 : Kc C6 8 = (.ireturn, 0, 0, 0, 0) := rfl
theorem k6_9 : Kc C6 9 = (.aload_n 1, 1, 0, 0, 0) := rfl
theorem k6_10 : Kc C6 10 = (.getfield 20, 4, 1, 0, 0) := rfl
theorem k6_13 : Kc C6 13 = (.tableswitch 60 1 5 #[35, 41, 47, 53, 53], 0, 0, 0, 0) := rfl
theorem k6_48 : Kc C6 48 = (.aload_n 0, 0, 0, 0, 0) := rfl
theorem k6_49 : Kc C6 49 = (.aload_n 1, 1, 0, 0, 0) := rfl
theorem k6_50 : Kc C6 50 = (.invokevirtual 42, 13, 1, 4, 0) := rfl
theorem k6_53 : Kc C6 53 = (.ireturn, 0, 0, 0, 0) := rfl
theorem k6_54 : Kc C6 54 = (.aload_n 0, 0, 0, 0, 0) := rfl
theorem k6_55 : Kc C6 55 = (.aload_n 1, 1, 0, 0, 0) := rfl
theorem k6_56 : Kc C6 56 = (.invokevirtual 45, 16, 1, 4, 0) := rfl
theorem k6_59 : Kc C6 59 = (.ireturn, 0, 0, 0, 0) := rfl
theorem k6_60 : Kc C6 60 = (.aload_n 0, 0, 0, 0, 0) := rfl
theorem k6_61 : Kc C6 61 = (.aload_n 1, 1, 0, 0, 0) := rfl
theorem k6_62 : Kc C6 62 = (.invokevirtual 48, 14, 1, 4, 0) := rfl
theorem k6_65 : Kc C6 65 = (.ireturn, 0, 0, 0, 0) := rfl
theorem k6_66 : Kc C6 66 = (.aload_n 0, 0, 0, 0, 0) := rfl
theorem k6_67 : Kc C6 67 = (.aload_n 1, 1, 0, 0, 0) := rfl
theorem k6_68 : Kc C6 68 = (.iload_n 2, 2, 0, 0, 0) := rfl
theorem k6_69 : Kc C6 69 = (.invokevirtual 51, 15, 2, 4, 0) := rfl
theorem k6_72 : Kc C6 72 = (.ireturn, 0, 0, 0, 0) := rfl
theorem k6_73 : Kc C6 73 = (.aload_n 0, 0, 0, 0, 0) := rfl
theorem k6_74 : Kc C6 74 = (.aload_n 1, 1, 0, 0, 0) := rfl
theorem k6_75 : Kc C6 75 = (.invokevirtual 54, 12, 1, 4, 0) := rfl
theorem k6_78 : Kc C6 78 = (.ireturn, 0, 0, 0, 0) := rfl
theorem ev6 (d : Nat) (x0 : Nat) (x1 : Nat) (x2 : Int32) (h : Hp) : EvM (d + 1) 6 [.ref x0, .ref x1, .int x2] h = EvI (EvM d) C6 1 0 [.ref x0, .ref x1, .int x2] [] h := rfl
theorem k7_0 : Kc C7 0 = (.aload_n 0, 0, 0, 0, 0) := rfl
theorem k7_1 : Kc C7 1 = (.bipush 10, 0, 0, 0, 10) := rfl
theorem k7_3 : Kc C7 3 = (.invokevirtual 57, 4, 1, 3, 0) := rfl
theorem k7_6 : Kc C7 6 = (.aload_n 1, 1, 0, 0, 0) := rfl
theorem k7_7 : Kc C7 7 = (.invokevirtual 61, 50, 0, 13, 0) := rfl
theorem k7_10 : Kc C7 10 = (.ireturn, 0, 0, 0, 0) := rfl
theorem ev7 (d : Nat) (x0 : Nat) (x1 : Nat) (h : Hp) : EvM (d + 1) 7 [.ref x0, .ref x1] h = EvI (EvM d) C7 1 0 [.ref x0, .ref x1] [] h := rfl
theorem k8_0 : Kc C8 0 = (.aload_n 0, 0, 0, 0, 0) := rfl
theorem k8_1 : Kc C8 1 = (.bipush 11, 0, 0, 0, 11) := rfl
theorem k8_3 : Kc C8 3 = (.invokevirtual 57, 4, 1, 3, 0) := rfl
theorem k8_6 : Kc C8 6 = (.aload_n 0, 0, 0, 0, 0) := rfl
theorem k8_7 : Kc C8 7 = (.aload_n 1, 1, 0, 0, 0) := rfl
theorem k8_8 : Kc C8 8 = (.invokevirtual 39, 7, 1, 4, 0) := rfl
theorem k8_11 : Kc C8 11 = (.istore_n 3, 3, 0, 0, 0) := rfl
theorem k8_12 : Kc C8 12 = (.iload_n 3, 3, 0, 0, 0) := rfl
theorem k8_13 : Kc C8 13 = (.aload_n 0, 0, 0, 0, 0) := rfl
theorem k8_14 : Kc C8 14 = (.aload_n 1, 1, 0, 0, 0) := rfl
theorem k8_15 : Kc C8 15 = (.iload_n 2, 2, 0, 0, 0) := rfl
theorem k8_16 : Kc C8 16 = (.iconst 1, 0, 0, 0, 1) := rfl
theorem k8_17 : Kc C8 17 = (.iadd, 0, 0, 0, 0) := rfl
theorem k8_18 : Kc C8 18 = (.invokevirtual 65, 6, 2, 4, 0) := rfl
theorem k8_21 : Kc C8 21 = (.iadd, 0, 0, 0, 0) := rfl
theorem k8_22 : Kc C8 22 = (.ireturn, 0, 0, 0, 0) := rfl
theorem ev8 (d : Nat) (x0 : Nat) (x1 : Nat) (x2 : Int32) (h : Hp) : EvM (d + 1) 8 [.ref x0, .ref x1, .int x2] h = EvI (EvM d) C8 1 0 [.ref x0, .ref x1, .int x2, jk] [] h := rfl
theorem k9_0 : Kc C9 0 = (.aload_n 0, 0, 0, 0, 0) := rfl
theorem k9_1 : Kc C9 1 = (.bipush 12, 0, 0, 0, 12) := rfl
theorem k9_3 : Kc C9 3 = (.invokevirtual 57, 4, 1, 3, 0) := rfl
theorem k9_6 : Kc C9 6 = (.aload_n 0, 0, 0, 0, 0) := rfl
theorem k9_7 : Kc C9 7 = (.aload_n 1, 1, 0, 0, 0) := rfl
theorem k9_8 : Kc C9 8 = (.iload_n 2, 2, 0, 0, 0) := rfl
theorem k9_9 : Kc C9 9 = (.invokevirtual 25, 8, 2, 4, 0) := rfl
theorem k9_12 : Kc C9 12 = (.ineg, 0, 0, 0, 0) := rfl
theorem k9_13 : Kc C9 13 = (.ireturn, 0, 0, 0, 0) := rfl
theorem ev9 (d : Nat) (x0 : Nat) (x1 : Nat) (x2 : Int32) (h : Hp) : EvM (d + 1) 9 [.ref x0, .ref x1, .int x2] h = EvI (EvM d) C9 1 0 [.ref x0, .ref x1, .int x2] [] h := rfl
theorem k10_0 : Kc C10 0 = (.aload_n 0, 0, 0, 0, 0) := rfl
theorem k10_1 : Kc C10 1 = (.bipush 13, 0, 0, 0, 13) := rfl
theorem k10_3 : Kc C10 3 = (.invokevirtual 57, 4, 1, 3, 0) := rfl
theorem k10_6 : Kc C10 6 = (.aload_n 0, 0, 0, 0, 0) := rfl
theorem k10_7 : Kc C10 7 = (.aload_n 1, 1, 0, 0, 0) := rfl
theorem k10_8 : Kc C10 8 = (.invokevirtual 39, 7, 1, 4, 0) := rfl
theorem k10_11 : Kc C10 11 = (.bipush 100, 0, 0, 0, 100) := rfl
theorem k10_13 : Kc C10 13 = (.isub, 0, 0, 0, 0) := rfl
theorem k10_14 : Kc C10 14 = (.ireturn, 0, 0, 0, 0) := rfl
theorem ev10 (d : Nat) (x0 : Nat) (x1 : Nat) (h : Hp) : EvM (d + 1) 10 [.ref x0, .ref x1] h = EvI (EvM d) C10 1 0 [.ref x0, .ref x1] [] h := rfl
theorem k11_0 : Kc C11 0 = (.aload_n 0, 0, 0, 0, 0) := rfl
theorem k11_1 : Kc C11 1 = (.bipush 14, 0, 0, 0, 14) := rfl
theorem k11_3 : Kc C11 3 = (.invokevirtual 57, 4, 1, 3, 0) := rfl
theorem k11_6 : Kc C11 6 = (.iconst 2, 0, 0, 0, 2) := rfl
theorem k11_7 : Kc C11 7 = (.aload_n 0, 0, 0, 0, 0) := rfl
theorem k11_8 : Kc C11 8 = (.aload_n 1, 1, 0, 0, 0) := rfl
theorem k11_9 : Kc C11 9 = (.invokevirtual 32, 10, 1, 4, 0) := rfl
theorem k11_12 : Kc C11 12 = (.imul, 0, 0, 0, 0) := rfl
theorem k11_13 : Kc C11 13 = (.ireturn, 0, 0, 0, 0) := rfl
theorem ev11 (d : Nat) (x0 : Nat) (x1 : Nat) (h : Hp) : EvM (d + 1) 11 [.ref x0, .ref x1] h = EvI (EvM d) C11 1 0 [.ref x0, .ref x1] [] h := rfl
theorem k12_0 : Kc C12 0 = (.aload_n 0, 0, 0, 0, 0) := rfl
theorem k12_1 : Kc C12 1 = (.bipush 20, 0, 0, 0, 20) := rfl
theorem k12_3 : Kc C12 3 = (.invokevirtual 57, 4, 1, 3, 0) := rfl
theorem k12_6 : Kc C12 6 = (.aload_n 1, 1, 0, 0, 0) := rfl
theorem k12_7 : Kc C12 7 = (.getfield 68, 4, 0, 0, 0) := rfl
theorem k12_10 : Kc C12 10 = (.ireturn, 0, 0, 0, 0) := rfl
theorem ev12 (d : Nat) (x0 : Nat) (x1 : Nat) (h : Hp) : EvM (d + 1) 12 [.ref x0, .ref x1] h = EvI (EvM d) C12 1 0 [.ref x0, .ref x1] [] h := rfl
theorem k13_0 : Kc C13 0 = (.aload_n 0, 0, 0, 0, 0) := rfl
theorem k13_1 : Kc C13 1 = (.bipush 21, 0, 0, 0, 21) := rfl
theorem k13_3 : Kc C13 3 = (.invokevirtual 57, 4, 1, 3, 0) := rfl
theorem k13_6 : Kc C13 6 = (.aload_n 0, 0, 0, 0, 0) := rfl
theorem k13_7 : Kc C13 7 = (.aload_n 1, 1, 0, 0, 0) := rfl
theorem k13_8 : Kc C13 8 = (.invokevirtual 54, 12, 1, 4, 0) := rfl
theorem k13_11 : Kc C13 11 = (.aload_n 1, 1, 0, 0, 0) := rfl
theorem k13_12 : Kc C13 12 = (.getfield 71, 4, 7, 0, 0) := rfl
theorem k13_15 : Kc C13 15 = (.iadd, 0, 0, 0, 0) := rfl
theorem k13_16 : Kc C13 16 = (.ireturn, 0, 0, 0, 0) := rfl
theorem ev13 (d : Nat) (x0 : Nat) (x1 : Nat) (h : Hp) : EvM (d + 1) 13 [.ref x0, .ref x1] h = EvI (EvM d) C13 1 0 [.ref x0, .ref x1] [] h := rfl
theorem k14_0 : Kc C14 0 = (.aload_n 0, 0, 0, 0, 0) := rfl
theorem k14_1 : Kc C14 1 = (.bipush 22, 0, 0, 0, 22) := rfl
theorem k14_3 : Kc C14 3 = (.invokevirtual 57, 4, 1, 3, 0) := rfl
theorem k14_6 : Kc C14 6 = (.aload_n 0, 0, 0, 0, 0) := rfl
theorem k14_7 : Kc C14 7 = (.aload_n 1, 1, 0, 0, 0) := rfl
theorem k14_8 : Kc C14 8 = (.invokevirtual 42, 13, 1, 4, 0) := rfl
theorem k14_11 : Kc C14 11 = (.sipush 1000, 0, 0, 0, 1000) := rfl
theorem k14_14 : Kc C14 14 = (.isub, 0, 0, 0, 0) := rfl
theorem k14_15 : Kc C14 15 = (.ireturn, 0, 0, 0, 0) := rfl
theorem ev14 (d : Nat) (x0 : Nat) (x1 : Nat) (h : Hp) : EvM (d + 1) 14 [.ref x0, .ref x1] h = EvI (EvM d) C14 1 0 [.ref x0, .ref x1] [] h := rfl
theorem k15_0 : Kc C15 0 = (.aload_n 0, 0, 0, 0, 0) := rfl
theorem k15_1 : Kc C15 1 = (.bipush 23, 0, 0, 0, 23) := rfl
theorem k15_3 : Kc C15 3 = (.invokevirtual 57, 4, 1, 3, 0) := rfl
theorem k15_6 : Kc C15 6 = (.aload_n 0, 0, 0, 0, 0) := rfl
theorem k15_7 : Kc C15 7 = (.aload_n 1, 1, 0, 0, 0) := rfl
theorem k15_8 : Kc C15 8 = (.invokevirtual 54, 12, 1, 4, 0) := rfl
theorem k15_11 : Kc C15 11 = (.istore_n 3, 3, 0, 0, 0) := rfl
theorem k15_12 : Kc C15 12 = (.iload_n 3, 3, 0, 0, 0) := rfl
theorem k15_13 : Kc C15 13 = (.aload_n 0, 0, 0, 0, 0) := rfl
theorem k15_14 : Kc C15 14 = (.aload_n 1, 1, 0, 0, 0) := rfl
theorem k15_15 : Kc C15 15 = (.iload_n 2, 2, 0, 0, 0) := rfl
theorem k15_16 : Kc C15 16 = (.iconst 1, 0, 0, 0, 1) := rfl
theorem k15_17 : Kc C15 17 = (.iadd, 0, 0, 0, 0) := rfl
theorem k15_18 : Kc C15 18 = (.invokevirtual 74, 5, 2, 4, 0) := rfl
theorem k15_21 : Kc C15 21 = (.isub, 0, 0, 0, 0) := rfl
theorem k15_22 : Kc C15 22 = (.ireturn, 0, 0, 0, 0) := rfl
theorem ev15 (d : Nat) (x0 : Nat) (x1 : Nat) (x2 : Int32) (h : Hp) : EvM (d + 1) 15 [.ref x0, .ref x1, .int x2] h = EvI (EvM d) C15 1 0 [.ref x0, .ref x1, .int x2, jk] [] h := rfl
theorem k16_0 : Kc C16 0 = (.aload_n 0, 0, 0, 0, 0) := rfl
theorem k16_1 : Kc C16 1 = (.bipush 24, 0, 0, 0, 24) := rfl
theorem k16_3 : Kc C16 3 = (.invokevirtual 57, 4, 1, 3, 0) := rfl
theorem k16_6 : Kc C16 6 = (.iconst 2, 0, 0, 0, 2) := rfl
theorem k16_7 : Kc C16 7 = (.aload_n 0, 0, 0, 0, 0) := rfl
theorem k16_8 : Kc C16 8 = (.aload_n 1, 1, 0, 0, 0) := rfl
theorem k16_9 : Kc C16 9 = (.invokevirtual 42, 13, 1, 4, 0) := rfl
theorem k16_12 : Kc C16 12 = (.imul, 0, 0, 0, 0) := rfl
theorem k16_13 : Kc C16 13 = (.ireturn, 0, 0, 0, 0) := rfl
theorem ev16 (d : Nat) (x0 : Nat) (x1 : Nat) (h : Hp) : EvM (d + 1) 16 [.ref x0, .ref x1] h = EvI (EvM d) C16 1 0 [.ref x0, .ref x1] [] h := rfl
theorem k17_0 : Kc C17 0 = (.aload_n 0, 0, 0, 0, 0) := rfl
theorem k17_1 : Kc C17 1 = (.invokespecial 3, 1002, 0, 0, 0) := rfl
theorem k17_4 : Kc C17 4 = (.aload_n 0, 0, 0, 0, 0) := rfl
theorem k17_5 : Kc C17 5 = (.iconst 1, 0, 0, 0, 1) := rfl
theorem k17_6 : Kc C17 6 = (.putfield 9, 2, 0, 0, 0) := rfl
theorem k17_9 : Kc C17 9 = (.aload_n 0, 0, 0, 0, 0) := rfl
theorem k17_10 : Kc C17 10 = (.iconst 1, 0, 0, 0, 1) := rfl
theorem k17_11 : Kc C17 11 = (.putfield 15, 2, 1, 0, 0) := rfl
theorem k17_14 : Kc C17 14 = (.aload_n 0, 0, 0, 0, 0) := rfl
theorem k17_15 : Kc C17 15 = (.iconst 0, 0, 0, 0, 0) := rfl
theorem k17_16 : Kc C17 16 = (.putfield 18, 2, 2, 0, 0) := rfl
theorem k17_19 : Kc C17 19 = (.aload_n 0, 0, 0, 0, 0) := rfl
theorem k17_20 : Kc C17 20 = (.iconst 0, 0, 0, 0, 0) := rfl
theorem k17_21 : Kc C17 21 = (.putfield 21, 2, 3, 0, 0) := rfl
theorem k17_24 : Kc C17 24 = (.aload_n 0, 0, 0, 0, 0) := rfl
theorem k17_25 : Kc C17 25 = (.bipush 6, 0, 0, 0, 6) := rfl
theorem k17_27 : Kc C17 27 = (.anewarray 24, 3, 0, 0, 0) := rfl
theorem k17_30 : Kc C17 30 = (.dup, 0, 0, 0, 0) := rfl
theorem k17_31 : Kc C17 31 = (.iconst 0, 0, 0, 0, 0) := rfl
theorem k17_32 : Kc C17 32 = (.new 24, 4, 0, 0, 0) := rfl
theorem k17_35 : Kc C17 35 = (.dup, 0, 0, 0, 0) := rfl
theorem k17_36 : Kc C17 36 = (.iconst 0, 0, 0, 0, 0) := rfl
theorem k17_37 : Kc C17 37 = (.invokespecial 26, 46, 1, 12, 0) := rfl
theorem k17_40 : Kc C17 40 = (.aastore, 0, 0, 0, 0) := rfl
theorem k17_41 : Kc C17 41 = (.dup, 0, 0, 0, 0) := rfl
theorem k17_42 : Kc C17 42 = (.iconst 1, 0, 0, 0, 1) := rfl
theorem k17_43 : Kc C17 43 = (.new 24, 4, 0, 0, 0) := rfl
theorem k17_46 : Kc C17 46 = (.dup, 0, 0, 0, 0) := rfl
theorem k17_47 : Kc C17 47 = (.iconst 1, 0, 0, 0, 1) := rfl
theorem k17_48 : Kc C17 48 = (.invokespecial 26, 46, 1, 12, 0) := rfl
theorem k17_51 : Kc C17 51 = (.aastore, 0, 0, 0, 0) := rfl
theorem k17_52 : Kc C17 52 = (.dup, 0, 0, 0, 0) := rfl
theorem k17_53 : Kc C17 53 = (.iconst 2, 0, 0, 0, 2) := rfl
theorem k17_54 : Kc C17 54 = (.new 24, 4, 0, 0, 0) := rfl
theorem k17_57 : Kc C17 57 = (.dup, 0, 0, 0, 0) := rfl
theorem k17_58 : Kc C17 58 = (.iconst 2, 0, 0, 0, 2) := rfl
theorem k17_59 : Kc C17 59 = (.invokespecial 26, 46, 1, 12, 0) := rfl
theorem k17_62 : Kc C17 62 = (.aastore, 0, 0, 0, 0) := rfl
theorem k17_63 : Kc C17 63 = (.dup, 0, 0, 0, 0) := rfl
theorem k17_64 : Kc C17 64 = (.iconst 3, 0, 0, 0, 3) := rfl
theorem k17_65 : Kc C17 65 = (.new 24, 4, 0, 0, 0) := rfl
theorem k17_68 : Kc C17 68 = (.dup, 0, 0, 0, 0) := rfl
theorem k17_69 : Kc C17 69 = (.iconst 3, 0, 0, 0, 3) := rfl
theorem k17_70 : Kc C17 70 = (.invokespecial 26, 46, 1, 12, 0) := rfl
theorem k17_73 : Kc C17 73 = (.aastore, 0, 0, 0, 0) := rfl
theorem k17_74 : Kc C17 74 = (.dup, 0, 0, 0, 0) := rfl
theorem k17_75 : Kc C17 75 = (.iconst 4, 0, 0, 0, 4) := rfl
theorem k17_76 : Kc C17 76 = (.new 24, 4, 0, 0, 0) := rfl
theorem k17_79 : Kc C17 79 = (.dup, 0, 0, 0, 0) := rfl
theorem k17_80 : Kc C17 80 = (.iconst 4, 0, 0, 0, 4) := rfl
theorem k17_81 : Kc C17 81 = (.invokespecial 26, 46, 1, 12, 0) := rfl
theorem k17_84 : Kc C17 84 = (.aastore, 0, 0, 0, 0) := rfl
theorem k17_85 : Kc C17 85 = (.dup, 0, 0, 0, 0) := rfl
theorem k17_86 : Kc C17 86 = (.iconst 5, 0, 0, 0, 5) := rfl
theorem k17_87 : Kc C17 87 = (.new 24, 4, 0, 0, 0) := rfl
theorem k17_90 : Kc C17 90 = (.dup, 0, 0, 0, 0) := rfl
theorem k17_91 : Kc C17 91 = (.iconst 5, 0, 0, 0, 5) := rfl
theorem k17_92 : Kc C17 92 = (.invokespecial 26, 46, 1, 12, 0) := rfl
theorem k17_95 : Kc C17 95 = (.aastore, 0, 0, 0, 0) := rfl
theorem k17_96 : Kc C17 96 = (.putfield 29, 2, 4, 0, 0) := rfl
theorem k17_99 : Kc C17 99 = (.return_, 0, 0, 0, 0) := rfl
theorem ev17 (d : Nat) (x0 : Nat) (h : Hp) : EvM (d + 1) 17 [.ref x0] h = EvI (EvM d) C17 0 0 [.ref x0] [] h := rfl
theorem k18_0 : Kc C18 0 = (.aload_n 0, 0, 0, 0, 0) := rfl
theorem k18_1 : Kc C18 1 = (.iconst 0, 0, 0, 0, 0) := rfl
theorem k18_2 : Kc C18 2 = (.putfield 18, 2, 2, 0, 0) := rfl
theorem k18_5 : Kc C18 5 = (.aload_n 0, 0, 0, 0, 0) := rfl
theorem k18_6 : Kc C18 6 = (.iconst 0, 0, 0, 0, 0) := rfl
theorem k18_7 : Kc C18 7 = (.putfield 21, 2, 3, 0, 0) := rfl
theorem k18_10 : Kc C18 10 = (.iconst 0, 0, 0, 0, 0) := rfl
theorem k18_11 : Kc C18 11 = (.istore_n 1, 1, 0, 0, 0) := rfl
theorem k18_12 : Kc C18 12 = (.iload_n 1, 1, 0, 0, 0) := rfl
theorem k18_13 : Kc C18 13 = (.bipush 6, 0, 0, 0, 6) := rfl
theorem k18_15 : Kc C18 15 = (.if_icmp .ge 18, 33, 0, 0, 0) := rfl
theorem k18_18 : Kc C18 18 = (.aload_n 0, 0, 0, 0, 0) := rfl
theorem k18_19 : Kc C18 19 = (.getfield 29, 2, 4, 0, 0) := rfl
theorem k18_22 : Kc C18 22 = (.iload_n 1, 1, 0, 0, 0) := rfl
theorem k18_23 : Kc C18 23 = (.aaload, 0, 0, 0, 0) := rfl
theorem k18_24 : Kc C18 24 = (.invokevirtual 33, 47, 0, 12, 0) := rfl
theorem k18_27 : Kc C18 27 = (.iinc 1 1, 1, 0, 0, 1) := rfl
theorem k18_30 : Kc C18 30 = (.goto (-18), 12, 0, 0, 0) := rfl
theorem k18_33 : Kc C18 33 = (.return_, 0, 0, 0, 0) := rfl
theorem ev18 (d : Nat) (x0 : Nat) (h : Hp) : EvM (d + 1) 18 [.ref x0] h = EvI (EvM d) C18 0 0 [.ref x0, jk] [] h := rfl
theorem k19_0 : Kc C19 0 = (.aload_n 0, 0, 0, 0, 0) := rfl
theorem k19_1 : Kc C19 1 = (.aload_n 1, 1, 0, 0, 0) := rfl
theorem k19_2 : Kc C19 2 = (.getfield 9, 2, 0, 0, 0) := rfl
theorem k19_5 : Kc C19 5 = (.putfield 9, 2, 0, 0, 0) := rfl
theorem k19_8 : Kc C19 8 = (.aload_n 0, 0, 0, 0, 0) := rfl
theorem k19_9 : Kc C19 9 = (.aload_n 1, 1, 0, 0, 0) := rfl
theorem k19_10 : Kc C19 10 = (.getfield 15, 2, 1, 0, 0) := rfl
theorem k19_13 : Kc C19 13 = (.putfield 15, 2, 1, 0, 0) := rfl
theorem k19_16 : Kc C19 16 = (.aload_n 0, 0, 0, 0, 0) := rfl
theorem k19_17 : Kc C19 17 = (.aload_n 1, 1, 0, 0, 0) := rfl
theorem k19_18 : Kc C19 18 = (.getfield 18, 2, 2, 0, 0) := rfl
theorem k19_21 : Kc C19 21 = (.putfield 18, 2, 2, 0, 0) := rfl
theorem k19_24 : Kc C19 24 = (.aload_n 0, 0, 0, 0, 0) := rfl
theorem k19_25 : Kc C19 25 = (.aload_n 1, 1, 0, 0, 0) := rfl
theorem k19_26 : Kc C19 26 = (.getfield 21, 2, 3, 0, 0) := rfl
theorem k19_29 : Kc C19 29 = (.putfield 21, 2, 3, 0, 0) := rfl
theorem k19_32 : Kc C19 32 = (.iconst 0, 0, 0, 0, 0) := rfl
theorem k19_33 : Kc C19 33 = (.istore_n 2, 2, 0, 0, 0) := rfl
theorem k19_34 : Kc C19 34 = (.iload_n 2, 2, 0, 0, 0) := rfl
theorem k19_35 : Kc C19 35 = (.aload_n 0, 0, 0, 0, 0) := rfl
theorem k19_36 : Kc C19 36 = (.getfield 21, 2, 3, 0, 0) := rfl
theorem k19_39 : Kc C19 39 = (.if_icmp .ge 24, 63, 0, 0, 0) := rfl
theorem k19_42 : Kc C19 42 = (.aload_n 0, 0, 0, 0, 0) := rfl
theorem k19_43 : Kc C19 43 = (.getfield 29, 2, 4, 0, 0) := rfl
theorem k19_46 : Kc C19 46 = (.iload_n 2, 2, 0, 0, 0) := rfl
theorem k19_47 : Kc C19 47 = (.aaload, 0, 0, 0, 0) := rfl
theorem k19_48 : Kc C19 48 = (.aload_n 1, 1, 0, 0, 0) := rfl
theorem k19_49 : Kc C19 49 = (.getfield 29, 2, 4, 0, 0) := rfl
theorem k19_52 : Kc C19 52 = (.iload_n 2, 2, 0, 0, 0) := rfl
theorem k19_53 : Kc C19 53 = (.aaload, 0, 0, 0, 0) := rfl
theorem k19_54 : Kc C19 54 = (.invokevirtual 36, 48, 1, 12, 0) := rfl
theorem k19_57 : Kc C19 57 = (.iinc 2 1, 2, 0, 0, 1) := rfl
theorem k19_60 : Kc C19 60 = (.goto (-26), 34, 0, 0, 0) := rfl
theorem k19_63 : Kc C19 63 = (.return_, 0, 0, 0, 0) := rfl
theorem ev19 (d : Nat) (x0 : Nat) (x1 : Nat) (h : Hp) : EvM (d + 1) 19 [.ref x0, .ref x1] h = EvI (EvM d) C19 0 0 [.ref x0, .ref x1, jk] [] h := rfl
theorem k20_0 : Kc C20 0 = (.iconst 0, 0, 0, 0, 0) := rfl
theorem k20_1 : Kc C20 1 = (.istore_n 1, 1, 0, 0, 0) := rfl
theorem k20_2 : Kc C20 2 = (.iconst 0, 0, 0, 0, 0) := rfl
theorem k20_3 : Kc C20 3 = (.istore_n 2, 2, 0, 0, 0) := rfl
theorem k20_4 : Kc C20 4 = (.iload_n 2, 2, 0, 0, 0) := rfl
theorem k20_5 : Kc C20 5 = (.aload_n 0, 0, 0, 0, 0) := rfl
theorem k20_6 : Kc C20 6 = (.getfield 21, 2, 3, 0, 0) := rfl
theorem k20_9 : Kc C20 9 = (.if_icmp .ge 21, 30, 0, 0, 0) := rfl
theorem k20_12 : Kc C20 12 = (.iload_n 1, 1, 0, 0, 0) := rfl
theorem k20_13 : Kc C20 13 = (.aload_n 0, 0, 0, 0, 0) := rfl
theorem k20_14 : Kc C20 14 = (.getfield 29, 2, 4, 0, 0) := rfl
theorem k20_17 : Kc C20 17 = (.iload_n 2, 2, 0, 0, 0) := rfl
theorem k20_18 : Kc C20 18 = (.aaload, 0, 0, 0, 0) := rfl
theorem k20_19 : Kc C20 19 = (.invokevirtual 40, 50, 0, 13, 0) := rfl
theorem k20_22 : Kc C20 22 = (.iadd, 0, 0, 0, 0) := rfl
theorem k20_23 : Kc C20 23 = (.istore_n 1, 1, 0, 0, 0) := rfl
theorem k20_24 : Kc C20 24 = (.iinc 2 1, 2, 0, 0, 1) := rfl
theorem k20_27 : Kc C20 27 = (.goto (-23), 4, 0, 0, 0) := rfl
theorem k20_30 : Kc C20 30 = (.iload_n 1, 1, 0, 0, 0) := rfl
theorem k20_31 : Kc C20 31 = (.ireturn, 0, 0, 0, 0) := rfl
theorem ev20 (d : Nat) (x0 : Nat) (h : Hp) : EvM (d + 1) 20 [.ref x0] h = EvI (EvM d) C20 1 0 [.ref x0, jk, jk] [] h := rfl
theorem k21_0 : Kc C21 0 = (.iconst 0, 0, 0, 0, 0) := rfl
theorem k21_1 : Kc C21 1 = (.istore_n 1, 1, 0, 0, 0) := rfl
theorem k21_2 : Kc C21 2 = (.iconst 0, 0, 0, 0, 0) := rfl
theorem k21_3 : Kc C21 3 = (.istore_n 2, 2, 0, 0, 0) := rfl
theorem k21_4 : Kc C21 4 = (.iload_n 2, 2, 0, 0, 0) := rfl
theorem k21_5 : Kc C21 5 = (.aload_n 0, 0, 0, 0, 0) := rfl
theorem k21_6 : Kc C21 6 = (.getfield 21, 2, 3, 0, 0) := rfl
theorem k21_9 : Kc C21 9 = (.if_icmp .ge 21, 30, 0, 0, 0) := rfl
theorem k21_12 : Kc C21 12 = (.iload_n 1, 1, 0, 0, 0) := rfl
theorem k21_13 : Kc C21 13 = (.aload_n 0, 0, 0, 0, 0) := rfl
theorem k21_14 : Kc C21 14 = (.getfield 29, 2, 4, 0, 0) := rfl
theorem k21_17 : Kc C21 17 = (.iload_n 2, 2, 0, 0, 0) := rfl
theorem k21_18 : Kc C21 18 = (.aaload, 0, 0, 0, 0) := rfl
theorem k21_19 : Kc C21 19 = (.getfield 44, 4, 5, 0, 0) := rfl
theorem k21_22 : Kc C21 22 = (.iadd, 0, 0, 0, 0) := rfl
theorem k21_23 : Kc C21 23 = (.istore_n 1, 1, 0, 0, 0) := rfl
theorem k21_24 : Kc C21 24 = (.iinc 2 1, 2, 0, 0, 1) := rfl
theorem k21_27 : Kc C21 27 = (.goto (-23), 4, 0, 0, 0) := rfl
theorem k21_30 : Kc C21 30 = (.iload_n 1, 1, 0, 0, 0) := rfl
theorem k21_31 : Kc C21 31 = (.ireturn, 0, 0, 0, 0) := rfl
theorem ev21 (d : Nat) (x0 : Nat) (h : Hp) : EvM (d + 1) 21 [.ref x0] h = EvI (EvM d) C21 1 0 [.ref x0, jk, jk] [] h := rfl
theorem k22_0 : Kc C22 0 = (.iconst 0, 0, 0, 0, 0) := rfl
theorem k22_1 : Kc C22 1 = (.istore_n 1, 1, 0, 0, 0) := rfl
theorem k22_2 : Kc C22 2 = (.iload_n 1, 1, 0, 0, 0) := rfl
theorem k22_3 : Kc C22 3 = (.aload_n 0, 0, 0, 0, 0) := rfl
theorem k22_4 : Kc C22 4 = (.getfield 21, 2, 3, 0, 0) := rfl
theorem k22_7 : Kc C22 7 = (.if_icmp .ge 19, 26, 0, 0, 0) := rfl
theorem k22_10 : Kc C22 10 = (.aload_n 0, 0, 0, 0, 0) := rfl
theorem k22_11 : Kc C22 11 = (.getfield 29, 2, 4, 0, 0) := rfl
theorem k22_14 : Kc C22 14 = (.iload_n 1, 1, 0, 0, 0) := rfl
theorem k22_15 : Kc C22 15 = (.aaload, 0, 0, 0, 0) := rfl
theorem k22_16 : Kc C22 16 = (.iconst 0, 0, 0, 0, 0) := rfl
theorem k22_17 : Kc C22 17 = (.putfield 47, 4, 7, 0, 0) := rfl
theorem k22_20 : Kc C22 20 = (.iinc 1 1, 1, 0, 0, 1) := rfl
theorem k22_23 : Kc C22 23 = (.goto (-21), 2, 0, 0, 0) := rfl
theorem k22_26 : Kc C22 26 = (.return_, 0, 0, 0, 0) := rfl
theorem ev22 (d : Nat) (x0 : Nat) (h : Hp) : EvM (d + 1) 22 [.ref x0] h = EvI (EvM d) C22 0 0 [.ref x0, jk] [] h := rfl
theorem k23_0 : Kc C23 0 = (.iload_n 2, 2, 0, 0, 0) := rfl
theorem k23_1 : Kc C23 1 = (.i2l, 0, 0, 0, 0) := rfl
theorem k23_2 : Kc C23 2 = (.lstore_n 3, 3, 0, 0, 0) := rfl
theorem k23_3 : Kc C23 3 = (.iconst 0, 0, 0, 0, 0) := rfl
theorem k23_4 : Kc C23 4 = (.istore 5, 5, 0, 0, 0) := rfl
theorem k23_6 : Kc C23 6 = (.iconst 0, 0, 0, 0, 0) := rfl
theorem k23_7 : Kc C23 7 = (.istore 6, 6, 0, 0, 0) := rfl
theorem k23_9 : Kc C23 9 = (.iload 6, 6, 0, 0, 0) := rfl
theorem k23_11 : Kc C23 11 = (.iload_n 1, 1, 0, 0, 0) := rfl
theorem k23_12 : Kc C23 12 = (.if_icmp .ge 59, 71, 0, 0, 0) := rfl
theorem k23_15 : Kc C23 15 = (.iconst 0, 0, 0, 0, 0) := rfl
theorem k23_16 : Kc C23 16 = (.istore 7, 7, 0, 0, 0) := rfl
theorem k23_18 : Kc C23 18 = (.iload 7, 7, 0, 0, 0) := rfl
theorem k23_20 : Kc C23 20 = (.aload_n 0, 0, 0, 0, 0) := rfl
theorem k23_21 : Kc C23 21 = (.getfield 21, 2, 3, 0, 0) := rfl
theorem k23_24 : Kc C23 24 = (.if_icmp .ge 37, 61, 0, 0, 0) := rfl
theorem k23_27 : Kc C23 27 = (.lload_n 3, 3, 0, 0, 0) := rfl
theorem k23_28 : Kc C23 28 = (.ldc2_w 50, 0, 0, 0, 16807) := rfl
theorem k23_31 : Kc C23 31 = (.lmul, 0, 0, 0, 0) := rfl
theorem k23_32 : Kc C23 32 = (.ldc2_w 52, 0, 0, 0, 2147483647) := rfl
theorem k23_35 : Kc C23 35 = (.lrem, 0, 0, 0, 0) := rfl
theorem k23_36 : Kc C23 36 = (.lstore_n 3, 3, 0, 0, 0) := rfl
theorem k23_37 : Kc C23 37 = (.iload 5, 5, 0, 0, 0) := rfl
theorem k23_39 : Kc C23 39 = (.aload_n 0, 0, 0, 0, 0) := rfl
theorem k23_40 : Kc C23 40 = (.aload_n 0, 0, 0, 0, 0) := rfl
theorem k23_41 : Kc C23 41 = (.getfield 29, 2, 4, 0, 0) := rfl
theorem k23_44 : Kc C23 44 = (.iload 7, 7, 0, 0, 0) := rfl
theorem k23_46 : Kc C23 46 = (.aaload, 0, 0, 0, 0) := rfl
theorem k23_47 : Kc C23 47 = (.lload_n 3, 3, 0, 0, 0) := rfl
theorem k23_48 : Kc C23 48 = (.l2i, 0, 0, 0, 0) := rfl
theorem k23_49 : Kc C23 49 = (.invokevirtual 54, 24, 2, 7, 0) := rfl
theorem k23_52 : Kc C23 52 = (.iadd, 0, 0, 0, 0) := rfl
theorem k23_53 : Kc C23 53 = (.istore 5, 5, 0, 0, 0) := rfl
theorem k23_55 : Kc C23 55 = (.iinc 7 1, 7, 0, 0, 1) := rfl
theorem k23_58 : Kc C23 58 = (.goto (-40), 18, 0, 0, 0) := rfl
theorem k23_61 : Kc C23 61 = (.aload_n 0, 0, 0, 0, 0) := rfl
theorem k23_62 : Kc C23 62 = (.invokevirtual 58, 25, 0, 6, 0) := rfl
theorem k23_65 : Kc C23 65 = (.iinc 6 1, 6, 0, 0, 1) := rfl
theorem k23_68 : Kc C23 68 = (.goto (-59), 9, 0, 0, 0) := rfl
theorem k23_71 : Kc C23 71 = (.iload 5, 5, 0, 0, 0) := rfl
theorem k23_73 : Kc C23 73 = (.ireturn, 0, 0, 0, 0) := rfl
theorem ev23 (d : Nat) (x0 : Nat) (x1 : Int32) (x2 : Int32) (h : Hp) : EvM (d + 1) 23 [.ref x0, .int x1, .int x2] h = EvI (EvM d) C23 1 0 [.ref x0, .int x1, .int x2, jk, jk, jk, jk, jk] [] h := rfl
theorem k24_0 : Kc C24 0 = (.aload_n 1, 1, 0, 0, 0) := rfl
theorem k24_1 : Kc C24 1 = (.iconst 2, 0, 0, 0, 2) := rfl
theorem k24_2 : Kc C24 2 = (.invokevirtual 61, 49, 1, 14, 0) := rfl
theorem k24_5 : Kc C24 5 = (.ifCond .ne 22, 27, 0, 0, 0) := rfl
theorem k24_8 : Kc C24 8 = (.iload_n 2, 2, 0, 0, 0) := rfl
theorem k24_9 : Kc C24 9 = (.bipush 10, 0, 0, 0, 10) := rfl
theorem k24_11 : Kc C24 11 = (.irem, 0, 0, 0, 0) := rfl
theorem k24_12 : Kc C24 12 = (.aload_n 1, 1, 0, 0, 0) := rfl
theorem k24_13 : Kc C24 13 = (.getfield 65, 4, 2, 0, 0) := rfl
theorem k24_16 : Kc C24 16 = (.if_icmp .ge 11, 27, 0, 0, 0) := rfl
theorem k24_19 : Kc C24 19 = (.aload_n 0, 0, 0, 0, 0) := rfl
theorem k24_20 : Kc C24 20 = (.getfield 15, 2, 1, 0, 0) := rfl
theorem k24_23 : Kc C24 23 = (.iconst 1, 0, 0, 0, 1) := rfl
theorem k24_24 : Kc C24 24 = (.if_icmp .ge 5, 29, 0, 0, 0) := rfl
theorem k24_27 : Kc C24 27 = (.iconst 0, 0, 0, 0, 0) := rfl
theorem k24_28 : Kc C24 28 = (.ireturn, 0, 0, 0, 0) := rfl
theorem k24_29 : Kc C24 29 = (.aload_n 1, 1, 0, 0, 0) := rfl
theorem k24_30 : Kc C24 30 = (.iconst 1, 0, 0, 0, 1) := rfl
theorem k24_31 : Kc C24 31 = (.iload_n 2, 2, 0, 0, 0) := rfl
theorem k24_32 : Kc C24 32 = (.bipush 10, 0, 0, 0, 10) := rfl
theorem k24_34 : Kc C24 34 = (.idiv, 0, 0, 0, 0) := rfl
theorem k24_35 : Kc C24 35 = (.aload_n 0, 0, 0, 0, 0) := rfl
theorem k24_36 : Kc C24 36 = (.getfield 15, 2, 1, 0, 0) := rfl
theorem k24_39 : Kc C24 39 = (.irem, 0, 0, 0, 0) := rfl
theorem k24_40 : Kc C24 40 = (.iadd, 0, 0, 0, 0) := rfl
theorem k24_41 : Kc C24 41 = (.invokevirtual 68, 54, 1, 12, 0) := rfl
theorem k24_44 : Kc C24 44 = (.iconst 1, 0, 0, 0, 1) := rfl
theorem k24_45 : Kc C24 45 = (.ireturn, 0, 0, 0, 0) := rfl
theorem ev24 (d : Nat) (x0 : Nat) (x1 : Nat) (x2 : Int32) (h : Hp) : EvM (d + 1) 24 [.ref x0, .ref x1, .int x2] h = EvI (EvM d) C24 1 0 [.ref x0, .ref x1, .int x2] [] h := rfl
theorem k25_0 : Kc C25 0 = (.iconst 0, 0, 0, 0, 0) := rfl
theorem k25_1 : Kc C25 1 = (.istore_n 1, 1, 0, 0, 0) := rfl
theorem k25_2 : Kc C25 2 = (.iload_n 1, 1, 0, 0, 0) := rfl
theorem k25_3 : Kc C25 3 = (.aload_n 0, 0, 0, 0, 0) := rfl
theorem k25_4 : Kc C25 4 = (.getfield 21, 2, 3, 0, 0) := rfl
theorem k25_7 : Kc C25 7 = (.if_icmp .ge 26, 33, 0, 0, 0) := rfl
theorem k25_10 : Kc C25 10 = (.aload_n 0, 0, 0, 0, 0) := rfl
theorem k25_11 : Kc C25 11 = (.getfield 29, 2, 4, 0, 0) := rfl
theorem k25_14 : Kc C25 14 = (.iload_n 1, 1, 0, 0, 0) := rfl
theorem k25_15 : Kc C25 15 = (.aaload, 0, 0, 0, 0) := rfl
theorem k25_16 : Kc C25 16 = (.aload_n 0, 0, 0, 0, 0) := rfl
theorem k25_17 : Kc C25 17 = (.getfield 18, 2, 2, 0, 0) := rfl
theorem k25_20 : Kc C25 20 = (.aload_n 0, 0, 0, 0, 0) := rfl
theorem k25_21 : Kc C25 21 = (.getfield 9, 2, 0, 0, 0) := rfl
theorem k25_24 : Kc C25 24 = (.invokevirtual 71, 57, 2, 12, 0) := rfl
theorem k25_27 : Kc C25 27 = (.iinc 1 1, 1, 0, 0, 1) := rfl
theorem k25_30 : Kc C25 30 = (.goto (-28), 2, 0, 0, 0) := rfl
theorem k25_33 : Kc C25 33 = (.aload_n 0, 0, 0, 0, 0) := rfl
theorem k25_34 : Kc C25 34 = (.dup, 0, 0, 0, 0) := rfl
theorem k25_35 : Kc C25 35 = (.getfield 18, 2, 2, 0, 0) := rfl
theorem k25_38 : Kc C25 38 = (.iconst 1, 0, 0, 0, 1) := rfl
theorem k25_39 : Kc C25 39 = (.iadd, 0, 0, 0, 0) := rfl
theorem k25_40 : Kc C25 40 = (.putfield 18, 2, 2, 0, 0) := rfl
theorem k25_43 : Kc C25 43 = (.return_, 0, 0, 0, 0) := rfl
theorem ev25 (d : Nat) (x0 : Nat) (h : Hp) : EvM (d + 1) 25 [.ref x0] h = EvI (EvM d) C25 0 0 [.ref x0, jk] [] h := rfl
theorem k26_0 : Kc C26 0 = (.aload_n 0, 0, 0, 0, 0) := rfl
theorem k26_1 : Kc C26 1 = (.getfield 29, 2, 4, 0, 0) := rfl
theorem k26_4 : Kc C26 4 = (.iload_n 1, 1, 0, 0, 0) := rfl
theorem k26_5 : Kc C26 5 = (.aaload, 0, 0, 0, 0) := rfl
theorem k26_6 : Kc C26 6 = (.invokevirtual 40, 50, 0, 13, 0) := rfl
theorem k26_9 : Kc C26 9 = (.iload_n 3, 3, 0, 0, 0) := rfl
theorem k26_10 : Kc C26 10 = (.if_icmp .ge 6, 16, 0, 0, 0) := rfl
theorem k26_13 : Kc C26 13 = (.ldc 74, 0, 0, 0, (-1000002)) := rfl
theorem k26_15 : Kc C26 15 = (.ireturn, 0, 0, 0, 0) := rfl
theorem k26_16 : Kc C26 16 = (.aload_n 0, 0, 0, 0, 0) := rfl
theorem k26_17 : Kc C26 17 = (.getfield 29, 2, 4, 0, 0) := rfl
theorem k26_20 : Kc C26 20 = (.iload_n 2, 2, 0, 0, 0) := rfl
theorem k26_21 : Kc C26 21 = (.aaload, 0, 0, 0, 0) := rfl
theorem k26_22 : Kc C26 22 = (.invokevirtual 40, 50, 0, 13, 0) := rfl
theorem k26_25 : Kc C26 25 = (.iload_n 3, 3, 0, 0, 0) := rfl
theorem k26_26 : Kc C26 26 = (.iadd, 0, 0, 0, 0) := rfl
theorem k26_27 : Kc C26 27 = (.sipush 9999, 0, 0, 0, 9999) := rfl
theorem k26_30 : Kc C26 30 = (.if_icmp .le 8, 38, 0, 0, 0) := rfl
theorem k26_33 : Kc C26 33 = (.ldc 75, 0, 0, 0, (-1000003)) := rfl
theorem k26_35 : Kc C26 35 = (.goto 4, 39, 0, 0, 0) := rfl
theorem k26_38 : Kc C26 38 = (.iconst 0, 0, 0, 0, 0) := rfl
theorem k26_39 : Kc C26 39 = (.ireturn, 0, 0, 0, 0) := rfl
theorem ev26 (d : Nat) (x0 : Nat) (x1 : Int32) (x2 : Int32) (x3 : Int32) (h : Hp) : EvM (d + 1) 26 [.ref x0, .int x1, .int x2, .int x3] h = EvI (EvM d) C26 1 0 [.ref x0, .int x1, .int x2, .int x3] [] h := rfl
theorem k27_0 : Kc C27 0 = (.aload_n 0, 0, 0, 0, 0) := rfl
theorem k27_1 : Kc C27 1 = (.getfield 29, 2, 4, 0, 0) := rfl
theorem k27_4 : Kc C27 4 = (.iload_n 1, 1, 0, 0, 0) := rfl
theorem k27_5 : Kc C27 5 = (.aaload, 0, 0, 0, 0) := rfl
theorem k27_6 : Kc C27 6 = (.iload_n 3, 3, 0, 0, 0) := rfl
theorem k27_7 : Kc C27 7 = (.invokevirtual 76, 53, 1, 13, 0) := rfl
theorem k27_10 : Kc C27 10 = (.pop, 0, 0, 0, 0) := rfl
theorem k27_11 : Kc C27 11 = (.aload_n 0, 0, 0, 0, 0) := rfl
theorem k27_12 : Kc C27 12 = (.getfield 29, 2, 4, 0, 0) := rfl
theorem k27_15 : Kc C27 15 = (.iload_n 1, 1, 0, 0, 0) := rfl
theorem k27_16 : Kc C27 16 = (.aaload, 0, 0, 0, 0) := rfl
theorem k27_17 : Kc C27 17 = (.dup, 0, 0, 0, 0) := rfl
theorem k27_18 : Kc C27 18 = (.getfield 80, 4, 4, 0, 0) := rfl
theorem k27_21 : Kc C27 21 = (.iload 4, 4, 0, 0, 0) := rfl
theorem k27_23 : Kc C27 23 = (.iadd, 0, 0, 0, 0) := rfl
theorem k27_24 : Kc C27 24 = (.putfield 80, 4, 4, 0, 0) := rfl
theorem k27_27 : Kc C27 27 = (.aload_n 0, 0, 0, 0, 0) := rfl
theorem k27_28 : Kc C27 28 = (.getfield 29, 2, 4, 0, 0) := rfl
theorem k27_31 : Kc C27 31 = (.iload_n 2, 2, 0, 0, 0) := rfl
theorem k27_32 : Kc C27 32 = (.aaload, 0, 0, 0, 0) := rfl
theorem k27_33 : Kc C27 33 = (.iload_n 3, 3, 0, 0, 0) := rfl
theorem k27_34 : Kc C27 34 = (.aload_n 0, 0, 0, 0, 0) := rfl
theorem k27_35 : Kc C27 35 = (.getfield 18, 2, 2, 0, 0) := rfl
theorem k27_38 : Kc C27 38 = (.invokevirtual 83, 52, 2, 12, 0) := rfl
theorem k27_41 : Kc C27 41 = (.aload_n 0, 0, 0, 0, 0) := rfl
theorem k27_42 : Kc C27 42 = (.getfield 29, 2, 4, 0, 0) := rfl
theorem k27_45 : Kc C27 45 = (.iload_n 2, 2, 0, 0, 0) := rfl
theorem k27_46 : Kc C27 46 = (.aaload, 0, 0, 0, 0) := rfl
theorem k27_47 : Kc C27 47 = (.dup, 0, 0, 0, 0) := rfl
theorem k27_48 : Kc C27 48 = (.getfield 80, 4, 4, 0, 0) := rfl
theorem k27_51 : Kc C27 51 = (.iload 4, 4, 0, 0, 0) := rfl
theorem k27_53 : Kc C27 53 = (.isub, 0, 0, 0, 0) := rfl
theorem k27_54 : Kc C27 54 = (.putfield 80, 4, 4, 0, 0) := rfl
theorem k27_57 : Kc C27 57 = (.return_, 0, 0, 0, 0) := rfl
theorem ev27 (d : Nat) (x0 : Nat) (x1 : Int32) (x2 : Int32) (x3 : Int32) (x4 : Int32) (h : Hp) : EvM (d + 1) 27 [.ref x0, .int x1, .int x2, .int x3, .int x4] h = EvI (EvM d) C27 0 0 [.ref x0, .int x1, .int x2, .int x3, .int x4] [] h := rfl
theorem k28_0 : Kc C28 0 = (.iconst 0, 0, 0, 0, 0) := rfl
theorem k28_1 : Kc C28 1 = (.istore_n 3, 3, 0, 0, 0) := rfl
theorem k28_2 : Kc C28 2 = (.iload_n 3, 3, 0, 0, 0) := rfl
theorem k28_3 : Kc C28 3 = (.iload_n 2, 2, 0, 0, 0) := rfl
theorem k28_4 : Kc C28 4 = (.if_icmp .ge 65, 69, 0, 0, 0) := rfl
theorem k28_7 : Kc C28 7 = (.iconst 4, 0, 0, 0, 4) := rfl
theorem k28_8 : Kc C28 8 = (.iload_n 3, 3, 0, 0, 0) := rfl
theorem k28_9 : Kc C28 9 = (.imul, 0, 0, 0, 0) := rfl
theorem k28_10 : Kc C28 10 = (.istore 4, 4, 0, 0, 0) := rfl
theorem k28_12 : Kc C28 12 = (.aload_n 0, 0, 0, 0, 0) := rfl
theorem k28_13 : Kc C28 13 = (.aload_n 1, 1, 0, 0, 0) := rfl
theorem k28_14 : Kc C28 14 = (.iload 4, 4, 0, 0, 0) := rfl
theorem k28_16 : Kc C28 16 = (.iaload, 0, 0, 0, 0) := rfl
theorem k28_17 : Kc C28 17 = (.aload_n 1, 1, 0, 0, 0) := rfl
theorem k28_18 : Kc C28 18 = (.iload 4, 4, 0, 0, 0) := rfl
theorem k28_20 : Kc C28 20 = (.iconst 1, 0, 0, 0, 1) := rfl
theorem k28_21 : Kc C28 21 = (.iadd, 0, 0, 0, 0) := rfl
theorem k28_22 : Kc C28 22 = (.iaload, 0, 0, 0, 0) := rfl
theorem k28_23 : Kc C28 23 = (.aload_n 1, 1, 0, 0, 0) := rfl
theorem k28_24 : Kc C28 24 = (.iload 4, 4, 0, 0, 0) := rfl
theorem k28_26 : Kc C28 26 = (.iconst 2, 0, 0, 0, 2) := rfl
theorem k28_27 : Kc C28 27 = (.iadd, 0, 0, 0, 0) := rfl
theorem k28_28 : Kc C28 28 = (.iaload, 0, 0, 0, 0) := rfl
theorem k28_29 : Kc C28 29 = (.invokevirtual 86, 26, 3, 7, 0) := rfl
theorem k28_32 : Kc C28 32 = (.ifCond .eq 5, 37, 0, 0, 0) := rfl
theorem k28_35 : Kc C28 35 = (.iload_n 3, 3, 0, 0, 0) := rfl
theorem k28_36 : Kc C28 36 = (.ireturn, 0, 0, 0, 0) := rfl
theorem k28_37 : Kc C28 37 = (.aload_n 0, 0, 0, 0, 0) := rfl
theorem k28_38 : Kc C28 38 = (.aload_n 1, 1, 0, 0, 0) := rfl
theorem k28_39 : Kc C28 39 = (.iload 4, 4, 0, 0, 0) := rfl
theorem k28_41 : Kc C28 41 = (.iaload, 0, 0, 0, 0) := rfl
theorem k28_42 : Kc C28 42 = (.aload_n 1, 1, 0, 0, 0) := rfl
theorem k28_43 : Kc C28 43 = (.iload 4, 4, 0, 0, 0) := rfl
theorem k28_45 : Kc C28 45 = (.iconst 1, 0, 0, 0, 1) := rfl
theorem k28_46 : Kc C28 46 = (.iadd, 0, 0, 0, 0) := rfl
theorem k28_47 : Kc C28 47 = (.iaload, 0, 0, 0, 0) := rfl
theorem k28_48 : Kc C28 48 = (.aload_n 1, 1, 0, 0, 0) := rfl
theorem k28_49 : Kc C28 49 = (.iload 4, 4, 0, 0, 0) := rfl
theorem k28_51 : Kc C28 51 = (.iconst 2, 0, 0, 0, 2) := rfl
theorem k28_52 : Kc C28 52 = (.iadd, 0, 0, 0, 0) := rfl
theorem k28_53 : Kc C28 53 = (.iaload, 0, 0, 0, 0) := rfl
theorem k28_54 : Kc C28 54 = (.aload_n 1, 1, 0, 0, 0) := rfl
theorem k28_55 : Kc C28 55 = (.iload 4, 4, 0, 0, 0) := rfl
theorem k28_57 : Kc C28 57 = (.iconst 3, 0, 0, 0, 3) := rfl
theorem k28_58 : Kc C28 58 = (.iadd, 0, 0, 0, 0) := rfl
theorem k28_59 : Kc C28 59 = (.iaload, 0, 0, 0, 0) := rfl
theorem k28_60 : Kc C28 60 = (.invokevirtual 90, 27, 4, 6, 0) := rfl
theorem k28_63 : Kc C28 63 = (.iinc 3 1, 3, 0, 0, 1) := rfl
theorem k28_66 : Kc C28 66 = (.goto (-64), 2, 0, 0, 0) := rfl
theorem k28_69 : Kc C28 69 = (.iload_n 2, 2, 0, 0, 0) := rfl
theorem k28_70 : Kc C28 70 = (.ireturn, 0, 0, 0, 0) := rfl
theorem ev28 (d : Nat) (x0 : Nat) (x1 : Nat) (x2 : Int32) (h : Hp) : EvM (d + 1) 28 [.ref x0, .ref x1, .int x2] h = EvI (EvM d) C28 1 0 [.ref x0, .ref x1, .int x2, jk, jk] [] h := rfl
theorem k29_0 : Kc C29 0 = (.iconst 0, 0, 0, 0, 0) := rfl
theorem k29_1 : Kc C29 1 = (.istore_n 2, 2, 0, 0, 0) := rfl
theorem k29_2 : Kc C29 2 = (.iconst 0, 0, 0, 0, 0) := rfl
theorem k29_3 : Kc C29 3 = (.istore_n 3, 3, 0, 0, 0) := rfl
theorem k29_4 : Kc C29 4 = (.iload_n 3, 3, 0, 0, 0) := rfl
theorem k29_5 : Kc C29 5 = (.aload_n 0, 0, 0, 0, 0) := rfl
theorem k29_6 : Kc C29 6 = (.getfield 21, 2, 3, 0, 0) := rfl
theorem k29_9 : Kc C29 9 = (.if_icmp .ge 40, 49, 0, 0, 0) := rfl
theorem k29_12 : Kc C29 12 = (.iload_n 2, 2, 0, 0, 0) := rfl
theorem k29_13 : Kc C29 13 = (.aload_n 0, 0, 0, 0, 0) := rfl
theorem k29_14 : Kc C29 14 = (.getfield 29, 2, 4, 0, 0) := rfl
theorem k29_17 : Kc C29 17 = (.iload_n 3, 3, 0, 0, 0) := rfl
theorem k29_18 : Kc C29 18 = (.aaload, 0, 0, 0, 0) := rfl
theorem k29_19 : Kc C29 19 = (.invokevirtual 94, 51, 0, 13, 0) := rfl
theorem k29_22 : Kc C29 22 = (.aload_n 1, 1, 0, 0, 0) := rfl
theorem k29_23 : Kc C29 23 = (.getfield 29, 2, 4, 0, 0) := rfl
theorem k29_26 : Kc C29 26 = (.iload_n 3, 3, 0, 0, 0) := rfl
theorem k29_27 : Kc C29 27 = (.aaload, 0, 0, 0, 0) := rfl
theorem k29_28 : Kc C29 28 = (.invokevirtual 94, 51, 0, 13, 0) := rfl
theorem k29_31 : Kc C29 31 = (.if_icmp .ge 9, 40, 0, 0, 0) := rfl
theorem k29_34 : Kc C29 34 = (.iconst 1, 0, 0, 0, 1) := rfl
theorem k29_35 : Kc C29 35 = (.iload_n 3, 3, 0, 0, 0) := rfl
theorem k29_36 : Kc C29 36 = (.ishl, 0, 0, 0, 0) := rfl
theorem k29_37 : Kc C29 37 = (.goto 4, 41, 0, 0, 0) := rfl
theorem k29_40 : Kc C29 40 = (.iconst 0, 0, 0, 0, 0) := rfl
theorem k29_41 : Kc C29 41 = (.ior, 0, 0, 0, 0) := rfl
theorem k29_42 : Kc C29 42 = (.istore_n 2, 2, 0, 0, 0) := rfl
theorem k29_43 : Kc C29 43 = (.iinc 3 1, 3, 0, 0, 1) := rfl
theorem k29_46 : Kc C29 46 = (.goto (-42), 4, 0, 0, 0) := rfl
theorem k29_49 : Kc C29 49 = (.iload_n 2, 2, 0, 0, 0) := rfl
theorem k29_50 : Kc C29 50 = (.ireturn, 0, 0, 0, 0) := rfl
theorem ev29 (d : Nat) (x0 : Nat) (x1 : Nat) (h : Hp) : EvM (d + 1) 29 [.ref x0, .ref x1] h = EvI (EvM d) C29 1 0 [.ref x0, .ref x1, jk, jk] [] h := rfl
theorem k30_0 : Kc C30 0 = (.aload_n 1, 1, 0, 0, 0) := rfl
theorem k30_1 : Kc C30 1 = (.getfield 97, 4, 3, 0, 0) := rfl
theorem k30_4 : Kc C30 4 = (.iload_n 2, 2, 0, 0, 0) := rfl
theorem k30_5 : Kc C30 5 = (.if_icmp .gt 17, 22, 0, 0, 0) := rfl
theorem k30_8 : Kc C30 8 = (.aload_n 1, 1, 0, 0, 0) := rfl
theorem k30_9 : Kc C30 9 = (.getfield 44, 4, 5, 0, 0) := rfl
theorem k30_12 : Kc C30 12 = (.ifCond .ne 10, 22, 0, 0, 0) := rfl
theorem k30_15 : Kc C30 15 = (.aload_n 1, 1, 0, 0, 0) := rfl
theorem k30_16 : Kc C30 16 = (.invokevirtual 40, 50, 0, 13, 0) := rfl
theorem k30_19 : Kc C30 19 = (.goto 4, 23, 0, 0, 0) := rfl
theorem k30_22 : Kc C30 22 = (.iconst 0, 0, 0, 0, 0) := rfl
theorem k30_23 : Kc C30 23 = (.ireturn, 0, 0, 0, 0) := rfl
theorem ev30 (d : Nat) (x0 : Nat) (x1 : Nat) (x2 : Int32) (h : Hp) : EvM (d + 1) 30 [.ref x0, .ref x1, .int x2] h = EvI (EvM d) C30 1 0 [.ref x0, .ref x1, .int x2] [] h := rfl
theorem k31_0 : Kc C31 0 = (.aload_n 1, 1, 0, 0, 0) := rfl
theorem k31_1 : Kc C31 1 = (.getfield 97, 4, 3, 0, 0) := rfl
theorem k31_4 : Kc C31 4 = (.iload_n 2, 2, 0, 0, 0) := rfl
theorem k31_5 : Kc C31 5 = (.if_icmp .lt 10, 15, 0, 0, 0) := rfl
theorem k31_8 : Kc C31 8 = (.aload_n 1, 1, 0, 0, 0) := rfl
theorem k31_9 : Kc C31 9 = (.getfield 44, 4, 5, 0, 0) := rfl
theorem k31_12 : Kc C31 12 = (.goto 4, 16, 0, 0, 0) := rfl
theorem k31_15 : Kc C31 15 = (.iconst 0, 0, 0, 0, 0) := rfl
theorem k31_16 : Kc C31 16 = (.ireturn, 0, 0, 0, 0) := rfl
theorem ev31 (d : Nat) (x0 : Nat) (x1 : Nat) (x2 : Int32) (h : Hp) : EvM (d + 1) 31 [.ref x0, .ref x1, .int x2] h = EvI (EvM d) C31 1 0 [.ref x0, .ref x1, .int x2] [] h := rfl
theorem k32_0 : Kc C32 0 = (.iconst 0, 0, 0, 0, 0) := rfl
theorem k32_1 : Kc C32 1 = (.istore_n 2, 2, 0, 0, 0) := rfl
theorem k32_2 : Kc C32 2 = (.iconst 0, 0, 0, 0, 0) := rfl
theorem k32_3 : Kc C32 3 = (.istore_n 3, 3, 0, 0, 0) := rfl
theorem k32_4 : Kc C32 4 = (.iload_n 3, 3, 0, 0, 0) := rfl
theorem k32_5 : Kc C32 5 = (.aload_n 0, 0, 0, 0, 0) := rfl
theorem k32_6 : Kc C32 6 = (.getfield 21, 2, 3, 0, 0) := rfl
theorem k32_9 : Kc C32 9 = (.if_icmp .ge 23, 32, 0, 0, 0) := rfl
theorem k32_12 : Kc C32 12 = (.iload_n 2, 2, 0, 0, 0) := rfl
theorem k32_13 : Kc C32 13 = (.aload_n 0, 0, 0, 0, 0) := rfl
theorem k32_14 : Kc C32 14 = (.aload_n 0, 0, 0, 0, 0) := rfl
theorem k32_15 : Kc C32 15 = (.getfield 29, 2, 4, 0, 0) := rfl
theorem k32_18 : Kc C32 18 = (.iload_n 3, 3, 0, 0, 0) := rfl
theorem k32_19 : Kc C32 19 = (.aaload, 0, 0, 0, 0) := rfl
theorem k32_20 : Kc C32 20 = (.iload_n 1, 1, 0, 0, 0) := rfl
theorem k32_21 : Kc C32 21 = (.invokevirtual 100, 30, 2, 7, 0) := rfl
theorem k32_24 : Kc C32 24 = (.iadd, 0, 0, 0, 0) := rfl
theorem k32_25 : Kc C32 25 = (.istore_n 2, 2, 0, 0, 0) := rfl
theorem k32_26 : Kc C32 26 = (.iinc 3 1, 3, 0, 0, 1) := rfl
theorem k32_29 : Kc C32 29 = (.goto (-25), 4, 0, 0, 0) := rfl
theorem k32_32 : Kc C32 32 = (.iload_n 2, 2, 0, 0, 0) := rfl
theorem k32_33 : Kc C32 33 = (.ireturn, 0, 0, 0, 0) := rfl
theorem ev32 (d : Nat) (x0 : Nat) (x1 : Int32) (h : Hp) : EvM (d + 1) 32 [.ref x0, .int x1] h = EvI (EvM d) C32 1 0 [.ref x0, .int x1, jk, jk] [] h := rfl
theorem k33_0 : Kc C33 0 = (.iconst 0, 0, 0, 0, 0) := rfl
theorem k33_1 : Kc C33 1 = (.istore_n 2, 2, 0, 0, 0) := rfl
theorem k33_2 : Kc C33 2 = (.iconst 0, 0, 0, 0, 0) := rfl
theorem k33_3 : Kc C33 3 = (.istore_n 3, 3, 0, 0, 0) := rfl
theorem k33_4 : Kc C33 4 = (.iload_n 3, 3, 0, 0, 0) := rfl
theorem k33_5 : Kc C33 5 = (.aload_n 0, 0, 0, 0, 0) := rfl
theorem k33_6 : Kc C33 6 = (.getfield 21, 2, 3, 0, 0) := rfl
theorem k33_9 : Kc C33 9 = (.if_icmp .ge 23, 32, 0, 0, 0) := rfl
theorem k33_12 : Kc C33 12 = (.iload_n 2, 2, 0, 0, 0) := rfl
theorem k33_13 : Kc C33 13 = (.aload_n 0, 0, 0, 0, 0) := rfl
theorem k33_14 : Kc C33 14 = (.aload_n 0, 0, 0, 0, 0) := rfl
theorem k33_15 : Kc C33 15 = (.getfield 29, 2, 4, 0, 0) := rfl
theorem k33_18 : Kc C33 18 = (.iload_n 3, 3, 0, 0, 0) := rfl
theorem k33_19 : Kc C33 19 = (.aaload, 0, 0, 0, 0) := rfl
theorem k33_20 : Kc C33 20 = (.iload_n 1, 1, 0, 0, 0) := rfl
theorem k33_21 : Kc C33 21 = (.invokevirtual 103, 31, 2, 7, 0) := rfl
theorem k33_24 : Kc C33 24 = (.iadd, 0, 0, 0, 0) := rfl
theorem k33_25 : Kc C33 25 = (.istore_n 2, 2, 0, 0, 0) := rfl
theorem k33_26 : Kc C33 26 = (.iinc 3 1, 3, 0, 0, 1) := rfl
theorem k33_29 : Kc C33 29 = (.goto (-25), 4, 0, 0, 0) := rfl
theorem k33_32 : Kc C33 32 = (.iload_n 2, 2, 0, 0, 0) := rfl
theorem k33_33 : Kc C33 33 = (.ireturn, 0, 0, 0, 0) := rfl
theorem ev33 (d : Nat) (x0 : Nat) (x1 : Int32) (h : Hp) : EvM (d + 1) 33 [.ref x0, .int x1] h = EvI (EvM d) C33 1 0 [.ref x0, .int x1, jk, jk] [] h := rfl
theorem k34_0 : Kc C34 0 = (.iconst 0, 0, 0, 0, 0) := rfl
theorem k34_1 : Kc C34 1 = (.istore_n 2, 2, 0, 0, 0) := rfl
theorem k34_2 : Kc C34 2 = (.iconst 0, 0, 0, 0, 0) := rfl
theorem k34_3 : Kc C34 3 = (.istore_n 3, 3, 0, 0, 0) := rfl
theorem k34_4 : Kc C34 4 = (.iload_n 3, 3, 0, 0, 0) := rfl
theorem k34_5 : Kc C34 5 = (.aload_n 0, 0, 0, 0, 0) := rfl
theorem k34_6 : Kc C34 6 = (.getfield 21, 2, 3, 0, 0) := rfl
theorem k34_9 : Kc C34 9 = (.if_icmp .ge 33, 42, 0, 0, 0) := rfl
theorem k34_12 : Kc C34 12 = (.iload_n 2, 2, 0, 0, 0) := rfl
theorem k34_13 : Kc C34 13 = (.aload_n 0, 0, 0, 0, 0) := rfl
theorem k34_14 : Kc C34 14 = (.aload_n 0, 0, 0, 0, 0) := rfl
theorem k34_15 : Kc C34 15 = (.getfield 29, 2, 4, 0, 0) := rfl
theorem k34_18 : Kc C34 18 = (.iload_n 3, 3, 0, 0, 0) := rfl
theorem k34_19 : Kc C34 19 = (.aaload, 0, 0, 0, 0) := rfl
theorem k34_20 : Kc C34 20 = (.iload_n 1, 1, 0, 0, 0) := rfl
theorem k34_21 : Kc C34 21 = (.invokevirtual 100, 30, 2, 7, 0) := rfl
theorem k34_24 : Kc C34 24 = (.ifCond .le 9, 33, 0, 0, 0) := rfl
theorem k34_27 : Kc C34 27 = (.iconst 1, 0, 0, 0, 1) := rfl
theorem k34_28 : Kc C34 28 = (.iload_n 3, 3, 0, 0, 0) := rfl
theorem k34_29 : Kc C34 29 = (.ishl, 0, 0, 0, 0) := rfl
theorem k34_30 : Kc C34 30 = (.goto 4, 34, 0, 0, 0) := rfl
theorem k34_33 : Kc C34 33 = (.iconst 0, 0, 0, 0, 0) := rfl
theorem k34_34 : Kc C34 34 = (.ior, 0, 0, 0, 0) := rfl
theorem k34_35 : Kc C34 35 = (.istore_n 2, 2, 0, 0, 0) := rfl
theorem k34_36 : Kc C34 36 = (.iinc 3 1, 3, 0, 0, 1) := rfl
theorem k34_39 : Kc C34 39 = (.goto (-35), 4, 0, 0, 0) := rfl
theorem k34_42 : Kc C34 42 = (.iload_n 2, 2, 0, 0, 0) := rfl
theorem k34_43 : Kc C34 43 = (.ireturn, 0, 0, 0, 0) := rfl
theorem ev34 (d : Nat) (x0 : Nat) (x1 : Int32) (h : Hp) : EvM (d + 1) 34 [.ref x0, .int x1] h = EvI (EvM d) C34 1 0 [.ref x0, .int x1, jk, jk] [] h := rfl
theorem k35_0 : Kc C35 0 = (.iconst 0, 0, 0, 0, 0) := rfl
theorem k35_1 : Kc C35 1 = (.istore_n 2, 2, 0, 0, 0) := rfl
theorem k35_2 : Kc C35 2 = (.iconst 0, 0, 0, 0, 0) := rfl
theorem k35_3 : Kc C35 3 = (.istore_n 3, 3, 0, 0, 0) := rfl
theorem k35_4 : Kc C35 4 = (.iload_n 3, 3, 0, 0, 0) := rfl
theorem k35_5 : Kc C35 5 = (.aload_n 0, 0, 0, 0, 0) := rfl
theorem k35_6 : Kc C35 6 = (.getfield 21, 2, 3, 0, 0) := rfl
theorem k35_9 : Kc C35 9 = (.if_icmp .ge 33, 42, 0, 0, 0) := rfl
theorem k35_12 : Kc C35 12 = (.iload_n 2, 2, 0, 0, 0) := rfl
theorem k35_13 : Kc C35 13 = (.aload_n 0, 0, 0, 0, 0) := rfl
theorem k35_14 : Kc C35 14 = (.aload_n 0, 0, 0, 0, 0) := rfl
theorem k35_15 : Kc C35 15 = (.getfield 29, 2, 4, 0, 0) := rfl
theorem k35_18 : Kc C35 18 = (.iload_n 3, 3, 0, 0, 0) := rfl
theorem k35_19 : Kc C35 19 = (.aaload, 0, 0, 0, 0) := rfl
theorem k35_20 : Kc C35 20 = (.iload_n 1, 1, 0, 0, 0) := rfl
theorem k35_21 : Kc C35 21 = (.invokevirtual 103, 31, 2, 7, 0) := rfl
theorem k35_24 : Kc C35 24 = (.ifCond .le 9, 33, 0, 0, 0) := rfl
theorem k35_27 : Kc C35 27 = (.iconst 1, 0, 0, 0, 1) := rfl
theorem k35_28 : Kc C35 28 = (.iload_n 3, 3, 0, 0, 0) := rfl
theorem k35_29 : Kc C35 29 = (.ishl, 0, 0, 0, 0) := rfl
theorem k35_30 : Kc C35 30 = (.goto 4, 34, 0, 0, 0) := rfl
theorem k35_33 : Kc C35 33 = (.iconst 0, 0, 0, 0, 0) := rfl
theorem k35_34 : Kc C35 34 = (.ior, 0, 0, 0, 0) := rfl
theorem k35_35 : Kc C35 35 = (.istore_n 2, 2, 0, 0, 0) := rfl
theorem k35_36 : Kc C35 36 = (.iinc 3 1, 3, 0, 0, 1) := rfl
theorem k35_39 : Kc C35 39 = (.goto (-35), 4, 0, 0, 0) := rfl
theorem k35_42 : Kc C35 42 = (.iload_n 2, 2, 0, 0, 0) := rfl
theorem k35_43 : Kc C35 43 = (.ireturn, 0, 0, 0, 0) := rfl
theorem ev35 (d : Nat) (x0 : Nat) (x1 : Int32) (h : Hp) : EvM (d + 1) 35 [.ref x0, .int x1] h = EvI (EvM d) C35 1 0 [.ref x0, .int x1, jk, jk] [] h := rfl
theorem k36_0 : Kc C36 0 = (.iconst 0, 0, 0, 0, 0) := rfl
theorem k36_1 : Kc C36 1 = (.istore_n 1, 1, 0, 0, 0) := rfl
theorem k36_2 : Kc C36 2 = (.iload_n 1, 1, 0, 0, 0) := rfl
theorem k36_3 : Kc C36 3 = (.bipush 99, 0, 0, 0, 99) := rfl
theorem k36_5 : Kc C36 5 = (.if_icmp .gt 24, 29, 0, 0, 0) := rfl
theorem k36_8 : Kc C36 8 = (.aload_n 0, 0, 0, 0, 0) := rfl
theorem k36_9 : Kc C36 9 = (.iload_n 1, 1, 0, 0, 0) := rfl
theorem k36_10 : Kc C36 10 = (.invokevirtual 106, 33, 1, 7, 0) := rfl
theorem k36_13 : Kc C36 13 = (.aload_n 0, 0, 0, 0, 0) := rfl
theorem k36_14 : Kc C36 14 = (.iload_n 1, 1, 0, 0, 0) := rfl
theorem k36_15 : Kc C36 15 = (.invokevirtual 109, 32, 1, 7, 0) := rfl
theorem k36_18 : Kc C36 18 = (.if_icmp .gt 5, 23, 0, 0, 0) := rfl
theorem k36_21 : Kc C36 21 = (.iload_n 1, 1, 0, 0, 0) := rfl
theorem k36_22 : Kc C36 22 = (.ireturn, 0, 0, 0, 0) := rfl
theorem k36_23 : Kc C36 23 = (.iinc 1 1, 1, 0, 0, 1) := rfl
theorem k36_26 : Kc C36 26 = (.goto (-24), 2, 0, 0, 0) := rfl
theorem k36_29 : Kc C36 29 = (.ldc 112, 0, 0, 0, (-1000000)) := rfl
theorem k36_31 : Kc C36 31 = (.ireturn, 0, 0, 0, 0) := rfl
theorem ev36 (d : Nat) (x0 : Nat) (h : Hp) : EvM (d + 1) 36 [.ref x0] h = EvI (EvM d) C36 1 0 [.ref x0, jk] [] h := rfl
theorem k37_0 : Kc C37 0 = (.iconst 0, 0, 0, 0, 0) := rfl
theorem k37_1 : Kc C37 1 = (.istore_n 2, 2, 0, 0, 0) := rfl
theorem k37_2 : Kc C37 2 = (.iconst 0, 0, 0, 0, 0) := rfl
theorem k37_3 : Kc C37 3 = (.istore_n 3, 3, 0, 0, 0) := rfl
theorem k37_4 : Kc C37 4 = (.iload_n 3, 3, 0, 0, 0) := rfl
theorem k37_5 : Kc C37 5 = (.aload_n 0, 0, 0, 0, 0) := rfl
theorem k37_6 : Kc C37 6 = (.getfield 21, 2, 3, 0, 0) := rfl
theorem k37_9 : Kc C37 9 = (.if_icmp .ge 34, 43, 0, 0, 0) := rfl
theorem k37_12 : Kc C37 12 = (.iload_n 2, 2, 0, 0, 0) := rfl
theorem k37_13 : Kc C37 13 = (.aload_n 0, 0, 0, 0, 0) := rfl
theorem k37_14 : Kc C37 14 = (.getfield 29, 2, 4, 0, 0) := rfl
theorem k37_17 : Kc C37 17 = (.iload_n 3, 3, 0, 0, 0) := rfl
theorem k37_18 : Kc C37 18 = (.aaload, 0, 0, 0, 0) := rfl
theorem k37_19 : Kc C37 19 = (.invokevirtual 40, 50, 0, 13, 0) := rfl
theorem k37_22 : Kc C37 22 = (.aload_n 1, 1, 0, 0, 0) := rfl
theorem k37_23 : Kc C37 23 = (.iload_n 3, 3, 0, 0, 0) := rfl
theorem k37_24 : Kc C37 24 = (.iaload, 0, 0, 0, 0) := rfl
theorem k37_25 : Kc C37 25 = (.if_icmp .eq 9, 34, 0, 0, 0) := rfl
theorem k37_28 : Kc C37 28 = (.iconst 1, 0, 0, 0, 1) := rfl
theorem k37_29 : Kc C37 29 = (.iload_n 3, 3, 0, 0, 0) := rfl
theorem k37_30 : Kc C37 30 = (.ishl, 0, 0, 0, 0) := rfl
theorem k37_31 : Kc C37 31 = (.goto 4, 35, 0, 0, 0) := rfl
theorem k37_34 : Kc C37 34 = (.iconst 0, 0, 0, 0, 0) := rfl
theorem k37_35 : Kc C37 35 = (.ior, 0, 0, 0, 0) := rfl
theorem k37_36 : Kc C37 36 = (.istore_n 2, 2, 0, 0, 0) := rfl
theorem k37_37 : Kc C37 37 = (.iinc 3 1, 3, 0, 0, 1) := rfl
theorem k37_40 : Kc C37 40 = (.goto (-36), 4, 0, 0, 0) := rfl
theorem k37_43 : Kc C37 43 = (.iload_n 2, 2, 0, 0, 0) := rfl
theorem k37_44 : Kc C37 44 = (.ireturn, 0, 0, 0, 0) := rfl
theorem ev37 (d : Nat) (x0 : Nat) (x1 : Nat) (h : Hp) : EvM (d + 1) 37 [.ref x0, .ref x1] h = EvI (EvM d) C37 1 0 [.ref x0, .ref x1, jk, jk] [] h := rfl
theorem k38_0 : Kc C38 0 = (.aload_n 0, 0, 0, 0, 0) := rfl
theorem k38_1 : Kc C38 1 = (.getfield 29, 2, 4, 0, 0) := rfl
theorem k38_4 : Kc C38 4 = (.iload_n 1, 1, 0, 0, 0) := rfl
theorem k38_5 : Kc C38 5 = (.aaload, 0, 0, 0, 0) := rfl
theorem k38_6 : Kc C38 6 = (.invokevirtual 40, 50, 0, 13, 0) := rfl
theorem k38_9 : Kc C38 9 = (.iload_n 2, 2, 0, 0, 0) := rfl
theorem k38_10 : Kc C38 10 = (.isub, 0, 0, 0, 0) := rfl
theorem k38_11 : Kc C38 11 = (.istore_n 3, 3, 0, 0, 0) := rfl
theorem k38_12 : Kc C38 12 = (.iload_n 3, 3, 0, 0, 0) := rfl
theorem k38_13 : Kc C38 13 = (.ifCond .lt 11, 24, 0, 0, 0) := rfl
theorem k38_16 : Kc C38 16 = (.aload_n 0, 0, 0, 0, 0) := rfl
theorem k38_17 : Kc C38 17 = (.getfield 15, 2, 1, 0, 0) := rfl
theorem k38_20 : Kc C38 20 = (.iconst 1, 0, 0, 0, 1) := rfl
theorem k38_21 : Kc C38 21 = (.if_icmp .ge 6, 27, 0, 0, 0) := rfl
theorem k38_24 : Kc C38 24 = (.ldc 112, 0, 0, 0, (-1000000)) := rfl
theorem k38_26 : Kc C38 26 = (.ireturn, 0, 0, 0, 0) := rfl
theorem k38_27 : Kc C38 27 = (.iload_n 3, 3, 0, 0, 0) := rfl
theorem k38_28 : Kc C38 28 = (.aload_n 0, 0, 0, 0, 0) := rfl
theorem k38_29 : Kc C38 29 = (.getfield 15, 2, 1, 0, 0) := rfl
theorem k38_32 : Kc C38 32 = (.iadd, 0, 0, 0, 0) := rfl
theorem k38_33 : Kc C38 33 = (.iconst 1, 0, 0, 0, 1) := rfl
theorem k38_34 : Kc C38 34 = (.isub, 0, 0, 0, 0) := rfl
theorem k38_35 : Kc C38 35 = (.aload_n 0, 0, 0, 0, 0) := rfl
theorem k38_36 : Kc C38 36 = (.getfield 15, 2, 1, 0, 0) := rfl
theorem k38_39 : Kc C38 39 = (.idiv, 0, 0, 0, 0) := rfl
theorem k38_40 : Kc C38 40 = (.ireturn, 0, 0, 0, 0) := rfl
theorem ev38 (d : Nat) (x0 : Nat) (x1 : Int32) (x2 : Int32) (h : Hp) : EvM (d + 1) 38 [.ref x0, .int x1, .int x2] h = EvI (EvM d) C38 1 0 [.ref x0, .int x1, .int x2, jk] [] h := rfl
theorem k39_0 : Kc C39 0 = (.aload_n 0, 0, 0, 0, 0) := rfl
theorem k39_1 : Kc C39 1 = (.invokespecial 3, 1002, 0, 0, 0) := rfl
theorem k39_4 : Kc C39 4 = (.aload_n 0, 0, 0, 0, 0) := rfl
theorem k39_5 : Kc C39 5 = (.bipush 6, 0, 0, 0, 6) := rfl
theorem k39_7 : Kc C39 7 = (.newarray .int, 0, 0, 0, 0) := rfl
theorem k39_9 : Kc C39 9 = (.putfield 9, 3, 0, 0, 0) := rfl
theorem k39_12 : Kc C39 12 = (.aload_n 0, 0, 0, 0, 0) := rfl
theorem k39_13 : Kc C39 13 = (.iconst 0, 0, 0, 0, 0) := rfl
theorem k39_14 : Kc C39 14 = (.putfield 15, 3, 1, 0, 0) := rfl
theorem k39_17 : Kc C39 17 = (.aload_n 0, 0, 0, 0, 0) := rfl
theorem k39_18 : Kc C39 18 = (.bipush 6, 0, 0, 0, 6) := rfl
theorem k39_20 : Kc C39 20 = (.newarray .int, 0, 0, 0, 0) := rfl
theorem k39_22 : Kc C39 22 = (.putfield 19, 3, 2, 0, 0) := rfl
theorem k39_25 : Kc C39 25 = (.aload_n 0, 0, 0, 0, 0) := rfl
theorem k39_26 : Kc C39 26 = (.bipush 7, 0, 0, 0, 7) := rfl
theorem k39_28 : Kc C39 28 = (.anewarray 22, 3, 0, 0, 0) := rfl
theorem k39_31 : Kc C39 31 = (.putfield 24, 3, 3, 0, 0) := rfl
theorem k39_34 : Kc C39 34 = (.aload_n 0, 0, 0, 0, 0) := rfl
theorem k39_35 : Kc C39 35 = (.bipush 12, 0, 0, 0, 12) := rfl
theorem k39_37 : Kc C39 37 = (.newarray .int, 0, 0, 0, 0) := rfl
theorem k39_39 : Kc C39 39 = (.putfield 28, 3, 4, 0, 0) := rfl
theorem k39_42 : Kc C39 42 = (.aload_n 0, 0, 0, 0, 0) := rfl
theorem k39_43 : Kc C39 43 = (.iconst 0, 0, 0, 0, 0) := rfl
theorem k39_44 : Kc C39 44 = (.putfield 31, 3, 5, 0, 0) := rfl
theorem k39_47 : Kc C39 47 = (.aload_n 0, 0, 0, 0, 0) := rfl
theorem k39_48 : Kc C39 48 = (.iconst 0, 0, 0, 0, 0) := rfl
theorem k39_49 : Kc C39 49 = (.putfield 34, 3, 6, 0, 0) := rfl
theorem k39_52 : Kc C39 52 = (.aload_n 0, 0, 0, 0, 0) := rfl
theorem k39_53 : Kc C39 53 = (.iconst 1, 0, 0, 0, 1) := rfl
theorem k39_54 : Kc C39 54 = (.putfield 37, 3, 7, 0, 0) := rfl
theorem k39_57 : Kc C39 57 = (.iconst 0, 0, 0, 0, 0) := rfl
theorem k39_58 : Kc C39 58 = (.istore_n 1, 1, 0, 0, 0) := rfl
theorem k39_59 : Kc C39 59 = (.iload_n 1, 1, 0, 0, 0) := rfl
theorem k39_60 : Kc C39 60 = (.bipush 6, 0, 0, 0, 6) := rfl
theorem k39_62 : Kc C39 62 = (.if_icmp .gt 23, 85, 0, 0, 0) := rfl
theorem k39_65 : Kc C39 65 = (.aload_n 0, 0, 0, 0, 0) := rfl
theorem k39_66 : Kc C39 66 = (.getfield 24, 3, 3, 0, 0) := rfl
theorem k39_69 : Kc C39 69 = (.iload_n 1, 1, 0, 0, 0) := rfl
theorem k39_70 : Kc C39 70 = (.new 22, 4, 0, 0, 0) := rfl
theorem k39_73 : Kc C39 73 = (.dup, 0, 0, 0, 0) := rfl
theorem k39_74 : Kc C39 74 = (.iload_n 1, 1, 0, 0, 0) := rfl
theorem k39_75 : Kc C39 75 = (.invokespecial 40, 46, 1, 12, 0) := rfl
theorem k39_78 : Kc C39 78 = (.aastore, 0, 0, 0, 0) := rfl
theorem k39_79 : Kc C39 79 = (.iinc 1 1, 1, 0, 0, 1) := rfl
theorem k39_82 : Kc C39 82 = (.goto (-23), 59, 0, 0, 0) := rfl
theorem k39_85 : Kc C39 85 = (.return_, 0, 0, 0, 0) := rfl
theorem ev39 (d : Nat) (x0 : Nat) (h : Hp) : EvM (d + 1) 39 [.ref x0] h = EvI (EvM d) C39 0 0 [.ref x0, jk] [] h := rfl
theorem k40_0 : Kc C40 0 = (.aload_n 2, 2, 0, 0, 0) := rfl
theorem k40_1 : Kc C40 1 = (.iconst 0, 0, 0, 0, 0) := rfl
theorem k40_2 : Kc C40 2 = (.aload_n 0, 0, 0, 0, 0) := rfl
theorem k40_3 : Kc C40 3 = (.getfield 28, 3, 4, 0, 0) := rfl
theorem k40_6 : Kc C40 6 = (.iconst 0, 0, 0, 0, 0) := rfl
theorem k40_7 : Kc C40 7 = (.iload_n 3, 3, 0, 0, 0) := rfl
theorem k40_8 : Kc C40 8 = (.invokestatic 43, 1001, 5, 0, 0) := rfl
theorem k40_11 : Kc C40 11 = (.aload_n 0, 0, 0, 0, 0) := rfl
theorem k40_12 : Kc C40 12 = (.iload_n 3, 3, 0, 0, 0) := rfl
theorem k40_13 : Kc C40 13 = (.putfield 31, 3, 5, 0, 0) := rfl
theorem k40_16 : Kc C40 16 = (.aload_n 0, 0, 0, 0, 0) := rfl
theorem k40_17 : Kc C40 17 = (.aload_n 1, 1, 0, 0, 0) := rfl
theorem k40_18 : Kc C40 18 = (.getfield 49, 2, 2, 0, 0) := rfl
theorem k40_21 : Kc C40 21 = (.putfield 34, 3, 6, 0, 0) := rfl
theorem k40_24 : Kc C40 24 = (.aload_n 0, 0, 0, 0, 0) := rfl
theorem k40_25 : Kc C40 25 = (.aload_n 1, 1, 0, 0, 0) := rfl
theorem k40_26 : Kc C40 26 = (.getfield 52, 2, 0, 0, 0) := rfl
theorem k40_29 : Kc C40 29 = (.putfield 37, 3, 7, 0, 0) := rfl
theorem k40_32 : Kc C40 32 = (.return_, 0, 0, 0, 0) := rfl
theorem ev40 (d : Nat) (x0 : Nat) (x1 : Nat) (x2 : Nat) (x3 : Int32) (h : Hp) : EvM (d + 1) 40 [.ref x0, .ref x1, .ref x2, .int x3] h = EvI (EvM d) C40 0 0 [.ref x0, .ref x1, .ref x2, .int x3] [] h := rfl
theorem k41_0 : Kc C41 0 = (.aload_n 0, 0, 0, 0, 0) := rfl
theorem k41_1 : Kc C41 1 = (.aload_n 1, 1, 0, 0, 0) := rfl
theorem k41_2 : Kc C41 2 = (.sipush 999, 0, 0, 0, 999) := rfl
theorem k41_5 : Kc C41 5 = (.invokevirtual 53, 42, 2, 11, 0) := rfl
theorem k41_8 : Kc C41 8 = (.ifCond .ne 6, 14, 0, 0, 0) := rfl
theorem k41_11 : Kc C41 11 = (.ldc 57, 0, 0, 0, (-1000000)) := rfl
theorem k41_13 : Kc C41 13 = (.ireturn, 0, 0, 0, 0) := rfl
theorem k41_14 : Kc C41 14 = (.iconst 0, 0, 0, 0, 0) := rfl
theorem k41_15 : Kc C41 15 = (.istore_n 2, 2, 0, 0, 0) := rfl
theorem k41_16 : Kc C41 16 = (.sipush 999, 0, 0, 0, 999) := rfl
theorem k41_19 : Kc C41 19 = (.istore_n 3, 3, 0, 0, 0) := rfl
theorem k41_20 : Kc C41 20 = (.iconst 0, 0, 0, 0, 0) := rfl
theorem k41_21 : Kc C41 21 = (.istore 4, 4, 0, 0, 0) := rfl
theorem k41_23 : Kc C41 23 = (.iload 4, 4, 0, 0, 0) := rfl
theorem k41_25 : Kc C41 25 = (.bipush 10, 0, 0, 0, 10) := rfl
theorem k41_27 : Kc C41 27 = (.if_icmp .ge 42, 69, 0, 0, 0) := rfl
theorem k41_30 : Kc C41 30 = (.iload_n 2, 2, 0, 0, 0) := rfl
theorem k41_31 : Kc C41 31 = (.iload_n 3, 3, 0, 0, 0) := rfl
theorem k41_32 : Kc C41 32 = (.if_icmp .ge 37, 69, 0, 0, 0) := rfl
theorem k41_35 : Kc C41 35 = (.iload_n 2, 2, 0, 0, 0) := rfl
theorem k41_36 : Kc C41 36 = (.iload_n 3, 3, 0, 0, 0) := rfl
theorem k41_37 : Kc C41 37 = (.iadd, 0, 0, 0, 0) := rfl
theorem k41_38 : Kc C41 38 = (.iconst 2, 0, 0, 0, 2) := rfl
theorem k41_39 : Kc C41 39 = (.idiv, 0, 0, 0, 0) := rfl
theorem k41_40 : Kc C41 40 = (.istore 5, 5, 0, 0, 0) := rfl
theorem k41_42 : Kc C41 42 = (.aload_n 0, 0, 0, 0, 0) := rfl
theorem k41_43 : Kc C41 43 = (.aload_n 1, 1, 0, 0, 0) := rfl
theorem k41_44 : Kc C41 44 = (.iload 5, 5, 0, 0, 0) := rfl
theorem k41_46 : Kc C41 46 = (.invokevirtual 53, 42, 2, 11, 0) := rfl
theorem k41_49 : Kc C41 49 = (.ifCond .eq 9, 58, 0, 0, 0) := rfl
theorem k41_52 : Kc C41 52 = (.iload 5, 5, 0, 0, 0) := rfl
theorem k41_54 : Kc C41 54 = (.istore_n 3, 3, 0, 0, 0) := rfl
theorem k41_55 : Kc C41 55 = (.goto 8, 63, 0, 0, 0) := rfl
theorem k41_58 : Kc C41 58 = (.iload 5, 5, 0, 0, 0) := rfl
theorem k41_60 : Kc C41 60 = (.iconst 1, 0, 0, 0, 1) := rfl
theorem k41_61 : Kc C41 61 = (.iadd, 0, 0, 0, 0) := rfl
theorem k41_62 : Kc C41 62 = (.istore_n 2, 2, 0, 0, 0) := rfl
theorem k41_63 : Kc C41 63 = (.iinc 4 1, 4, 0, 0, 1) := rfl
theorem k41_66 : Kc C41 66 = (.goto (-43), 23, 0, 0, 0) := rfl
theorem k41_69 : Kc C41 69 = (.iload_n 2, 2, 0, 0, 0) := rfl
theorem k41_70 : Kc C41 70 = (.ireturn, 0, 0, 0, 0) := rfl
theorem ev41 (d : Nat) (x0 : Nat) (x1 : Nat) (h : Hp) : EvM (d + 1) 41 [.ref x0, .ref x1] h = EvI (EvM d) C41 1 0 [.ref x0, .ref x1, jk, jk, jk, jk] [] h := rfl
theorem k42_0 : Kc C42 0 = (.aload_n 0, 0, 0, 0, 0) := rfl
theorem k42_1 : Kc C42 1 = (.getfield 24, 3, 3, 0, 0) := rfl
theorem k42_4 : Kc C42 4 = (.iconst 0, 0, 0, 0, 0) := rfl
theorem k42_5 : Kc C42 5 = (.aaload, 0, 0, 0, 0) := rfl
theorem k42_6 : Kc C42 6 = (.astore_n 3, 3, 0, 0, 0) := rfl
theorem k42_7 : Kc C42 7 = (.aload_n 3, 3, 0, 0, 0) := rfl
theorem k42_8 : Kc C42 8 = (.aload_n 1, 1, 0, 0, 0) := rfl
theorem k42_9 : Kc C42 9 = (.invokevirtual 58, 48, 1, 12, 0) := rfl
theorem k42_12 : Kc C42 12 = (.iload_n 2, 2, 0, 0, 0) := rfl
theorem k42_13 : Kc C42 13 = (.ifCond .le 12, 25, 0, 0, 0) := rfl
theorem k42_16 : Kc C42 16 = (.aload_n 3, 3, 0, 0, 0) := rfl
theorem k42_17 : Kc C42 17 = (.iload_n 2, 2, 0, 0, 0) := rfl
theorem k42_18 : Kc C42 18 = (.aload_n 0, 0, 0, 0, 0) := rfl
theorem k42_19 : Kc C42 19 = (.getfield 34, 3, 6, 0, 0) := rfl
theorem k42_22 : Kc C42 22 = (.invokevirtual 62, 52, 2, 12, 0) := rfl
theorem k42_25 : Kc C42 25 = (.iconst 0, 0, 0, 0, 0) := rfl
theorem k42_26 : Kc C42 26 = (.istore 4, 4, 0, 0, 0) := rfl
theorem k42_28 : Kc C42 28 = (.iload 4, 4, 0, 0, 0) := rfl
theorem k42_30 : Kc C42 30 = (.aload_n 0, 0, 0, 0, 0) := rfl
theorem k42_31 : Kc C42 31 = (.getfield 31, 3, 5, 0, 0) := rfl
theorem k42_34 : Kc C42 34 = (.if_icmp .ge 35, 69, 0, 0, 0) := rfl
theorem k42_37 : Kc C42 37 = (.aload_n 3, 3, 0, 0, 0) := rfl
theorem k42_38 : Kc C42 38 = (.aload_n 0, 0, 0, 0, 0) := rfl
theorem k42_39 : Kc C42 39 = (.getfield 28, 3, 4, 0, 0) := rfl
theorem k42_42 : Kc C42 42 = (.iload 4, 4, 0, 0, 0) := rfl
theorem k42_44 : Kc C42 44 = (.iaload, 0, 0, 0, 0) := rfl
theorem k42_45 : Kc C42 45 = (.invokevirtual 66, 54, 1, 12, 0) := rfl
theorem k42_48 : Kc C42 48 = (.aload_n 3, 3, 0, 0, 0) := rfl
theorem k42_49 : Kc C42 49 = (.aload_n 0, 0, 0, 0, 0) := rfl
theorem k42_50 : Kc C42 50 = (.getfield 34, 3, 6, 0, 0) := rfl
theorem k42_53 : Kc C42 53 = (.iload 4, 4, 0, 0, 0) := rfl
theorem k42_55 : Kc C42 55 = (.iadd, 0, 0, 0, 0) := rfl
theorem k42_56 : Kc C42 56 = (.aload_n 0, 0, 0, 0, 0) := rfl
theorem k42_57 : Kc C42 57 = (.getfield 37, 3, 7, 0, 0) := rfl
theorem k42_60 : Kc C42 60 = (.invokevirtual 69, 57, 2, 12, 0) := rfl
theorem k42_63 : Kc C42 63 = (.iinc 4 1, 4, 0, 0, 1) := rfl
theorem k42_66 : Kc C42 66 = (.goto (-38), 28, 0, 0, 0) := rfl
theorem k42_69 : Kc C42 69 = (.aload_n 3, 3, 0, 0, 0) := rfl
theorem k42_70 : Kc C42 70 = (.getfield 72, 4, 5, 0, 0) := rfl
theorem k42_73 : Kc C42 73 = (.aload_n 1, 1, 0, 0, 0) := rfl
theorem k42_74 : Kc C42 74 = (.getfield 72, 4, 5, 0, 0) := rfl
theorem k42_77 : Kc C42 77 = (.if_icmp .gt 7, 84, 0, 0, 0) := rfl
theorem k42_80 : Kc C42 80 = (.iconst 1, 0, 0, 0, 1) := rfl
theorem k42_81 : Kc C42 81 = (.goto 4, 85, 0, 0, 0) := rfl
theorem k42_84 : Kc C42 84 = (.iconst 0, 0, 0, 0, 0) := rfl
theorem k42_85 : Kc C42 85 = (.ireturn, 0, 0, 0, 0) := rfl
theorem ev42 (d : Nat) (x0 : Nat) (x1 : Nat) (x2 : Int32) (h : Hp) : EvM (d + 1) 42 [.ref x0, .ref x1, .int x2] h = EvI (EvM d) C42 2 0 [.ref x0, .ref x1, .int x2, jk, jk] [] h := rfl
theorem k43_0 : Kc C43 0 = (.aload_n 0, 0, 0, 0, 0) := rfl
theorem k43_1 : Kc C43 1 = (.getfield 24, 3, 3, 0, 0) := rfl
theorem k43_4 : Kc C43 4 = (.iconst 0, 0, 0, 0, 0) := rfl
theorem k43_5 : Kc C43 5 = (.aaload, 0, 0, 0, 0) := rfl
theorem k43_6 : Kc C43 6 = (.aload_n 1, 1, 0, 0, 0) := rfl
theorem k43_7 : Kc C43 7 = (.invokevirtual 58, 48, 1, 12, 0) := rfl
theorem k43_10 : Kc C43 10 = (.aload_n 0, 0, 0, 0, 0) := rfl
theorem k43_11 : Kc C43 11 = (.sipush 10000, 0, 0, 0, 10000) := rfl
theorem k43_14 : Kc C43 14 = (.putfield 15, 3, 1, 0, 0) := rfl
theorem k43_17 : Kc C43 17 = (.aload_n 0, 0, 0, 0, 0) := rfl
theorem k43_18 : Kc C43 18 = (.iconst 0, 0, 0, 0, 0) := rfl
theorem k43_19 : Kc C43 19 = (.iconst 0, 0, 0, 0, 0) := rfl
theorem k43_20 : Kc C43 20 = (.invokevirtual 75, 44, 2, 9, 0) := rfl
theorem k43_23 : Kc C43 23 = (.return_, 0, 0, 0, 0) := rfl
theorem ev43 (d : Nat) (x0 : Nat) (x1 : Nat) (h : Hp) : EvM (d + 1) 43 [.ref x0, .ref x1] h = EvI (EvM d) C43 0 0 [.ref x0, .ref x1] [] h := rfl
theorem k44_0 : Kc C44 0 = (.iload_n 1, 1, 0, 0, 0) := rfl
theorem k44_1 : Kc C44 1 = (.aload_n 0, 0, 0, 0, 0) := rfl
theorem k44_2 : Kc C44 2 = (.getfield 31, 3, 5, 0, 0) := rfl
theorem k44_5 : Kc C44 5 = (.if_icmp .ge 9, 14, 0, 0, 0) := rfl
theorem k44_8 : Kc C44 8 = (.iload_n 1, 1, 0, 0, 0) := rfl
theorem k44_9 : Kc C44 9 = (.bipush 6, 0, 0, 0, 6) := rfl
theorem k44_11 : Kc C44 11 = (.if_icmp .lt 8, 19, 0, 0, 0) := rfl
theorem k44_14 : Kc C44 14 = (.aload_n 0, 0, 0, 0, 0) := rfl
theorem k44_15 : Kc C44 15 = (.invokevirtual 78, 45, 0, 9, 0) := rfl
theorem k44_18 : Kc C44 18 = (.return_, 0, 0, 0, 0) := rfl
theorem k44_19 : Kc C44 19 = (.aload_n 0, 0, 0, 0, 0) := rfl
theorem k44_20 : Kc C44 20 = (.getfield 24, 3, 3, 0, 0) := rfl
theorem k44_23 : Kc C44 23 = (.iload_n 1, 1, 0, 0, 0) := rfl
theorem k44_24 : Kc C44 24 = (.iconst 1, 0, 0, 0, 1) := rfl
theorem k44_25 : Kc C44 25 = (.iadd, 0, 0, 0, 0) := rfl
theorem k44_26 : Kc C44 26 = (.aaload, 0, 0, 0, 0) := rfl
theorem k44_27 : Kc C44 27 = (.astore_n 3, 3, 0, 0, 0) := rfl
theorem k44_28 : Kc C44 28 = (.iconst 0, 0, 0, 0, 0) := rfl
theorem k44_29 : Kc C44 29 = (.istore 4, 4, 0, 0, 0) := rfl
theorem k44_31 : Kc C44 31 = (.iload 4, 4, 0, 0, 0) := rfl
theorem k44_33 : Kc C44 33 = (.aload_n 0, 0, 0, 0, 0) := rfl
theorem k44_34 : Kc C44 34 = (.getfield 31, 3, 5, 0, 0) := rfl
theorem k44_37 : Kc C44 37 = (.if_icmp .ge 78, 115, 0, 0, 0) := rfl
theorem k44_40 : Kc C44 40 = (.iload_n 2, 2, 0, 0, 0) := rfl
theorem k44_41 : Kc C44 41 = (.iload 4, 4, 0, 0, 0) := rfl
theorem k44_43 : Kc C44 43 = (.ishr, 0, 0, 0, 0) := rfl
theorem k44_44 : Kc C44 44 = (.iconst 1, 0, 0, 0, 1) := rfl
theorem k44_45 : Kc C44 45 = (.iand, 0, 0, 0, 0) := rfl
theorem k44_46 : Kc C44 46 = (.iconst 1, 0, 0, 0, 1) := rfl
theorem k44_47 : Kc C44 47 = (.if_icmp .ne 6, 53, 0, 0, 0) := rfl
theorem k44_50 : Kc C44 50 = (.goto 59, 109, 0, 0, 0) := rfl
theorem k44_53 : Kc C44 53 = (.aload_n 0, 0, 0, 0, 0) := rfl
theorem k44_54 : Kc C44 54 = (.getfield 19, 3, 2, 0, 0) := rfl
theorem k44_57 : Kc C44 57 = (.iload_n 1, 1, 0, 0, 0) := rfl
theorem k44_58 : Kc C44 58 = (.iload 4, 4, 0, 0, 0) := rfl
theorem k44_60 : Kc C44 60 = (.iastore, 0, 0, 0, 0) := rfl
theorem k44_61 : Kc C44 61 = (.aload_n 3, 3, 0, 0, 0) := rfl
theorem k44_62 : Kc C44 62 = (.aload_n 0, 0, 0, 0, 0) := rfl
theorem k44_63 : Kc C44 63 = (.getfield 24, 3, 3, 0, 0) := rfl
theorem k44_66 : Kc C44 66 = (.iload_n 1, 1, 0, 0, 0) := rfl
theorem k44_67 : Kc C44 67 = (.aaload, 0, 0, 0, 0) := rfl
theorem k44_68 : Kc C44 68 = (.invokevirtual 58, 48, 1, 12, 0) := rfl
theorem k44_71 : Kc C44 71 = (.aload_n 3, 3, 0, 0, 0) := rfl
theorem k44_72 : Kc C44 72 = (.aload_n 0, 0, 0, 0, 0) := rfl
theorem k44_73 : Kc C44 73 = (.getfield 28, 3, 4, 0, 0) := rfl
theorem k44_76 : Kc C44 76 = (.iload 4, 4, 0, 0, 0) := rfl
theorem k44_78 : Kc C44 78 = (.iaload, 0, 0, 0, 0) := rfl
theorem k44_79 : Kc C44 79 = (.invokevirtual 66, 54, 1, 12, 0) := rfl
theorem k44_82 : Kc C44 82 = (.aload_n 3, 3, 0, 0, 0) := rfl
theorem k44_83 : Kc C44 83 = (.aload_n 0, 0, 0, 0, 0) := rfl
theorem k44_84 : Kc C44 84 = (.getfield 34, 3, 6, 0, 0) := rfl
theorem k44_87 : Kc C44 87 = (.iload_n 1, 1, 0, 0, 0) := rfl
theorem k44_88 : Kc C44 88 = (.iadd, 0, 0, 0, 0) := rfl
theorem k44_89 : Kc C44 89 = (.aload_n 0, 0, 0, 0, 0) := rfl
theorem k44_90 : Kc C44 90 = (.getfield 37, 3, 7, 0, 0) := rfl
theorem k44_93 : Kc C44 93 = (.invokevirtual 69, 57, 2, 12, 0) := rfl
theorem k44_96 : Kc C44 96 = (.aload_n 0, 0, 0, 0, 0) := rfl
theorem k44_97 : Kc C44 97 = (.iload_n 1, 1, 0, 0, 0) := rfl
theorem k44_98 : Kc C44 98 = (.iconst 1, 0, 0, 0, 1) := rfl
theorem k44_99 : Kc C44 99 = (.iadd, 0, 0, 0, 0) := rfl
theorem k44_100 : Kc C44 100 = (.iload_n 2, 2, 0, 0, 0) := rfl
theorem k44_101 : Kc C44 101 = (.iconst 1, 0, 0, 0, 1) := rfl
theorem k44_102 : Kc C44 102 = (.iload 4, 4, 0, 0, 0) := rfl
theorem k44_104 : Kc C44 104 = (.ishl, 0, 0, 0, 0) := rfl
theorem k44_105 : Kc C44 105 = (.ior, 0, 0, 0, 0) := rfl
theorem k44_106 : Kc C44 106 = (.invokevirtual 75, 44, 2, 9, 0) := rfl
theorem k44_109 : Kc C44 109 = (.iinc 4 1, 4, 0, 0, 1) := rfl
theorem k44_112 : Kc C44 112 = (.goto (-81), 31, 0, 0, 0) := rfl
theorem k44_115 : Kc C44 115 = (.return_, 0, 0, 0, 0) := rfl
theorem ev44 (d : Nat) (x0 : Nat) (x1 : Int32) (x2 : Int32) (h : Hp) : EvM (d + 1) 44 [.ref x0, .int x1, .int x2] h = EvI (EvM d) C44 0 0 [.ref x0, .int x1, .int x2, jk, jk] [] h := rfl
theorem k45_0 : Kc C45 0 = (.aload_n 0, 0, 0, 0, 0) := rfl
theorem k45_1 : Kc C45 1 = (.getfield 24, 3, 3, 0, 0) := rfl
theorem k45_4 : Kc C45 4 = (.aload_n 0, 0, 0, 0, 0) := rfl
theorem k45_5 : Kc C45 5 = (.getfield 31, 3, 5, 0, 0) := rfl
theorem k45_8 : Kc C45 8 = (.aaload, 0, 0, 0, 0) := rfl
theorem k45_9 : Kc C45 9 = (.getfield 72, 4, 5, 0, 0) := rfl
theorem k45_12 : Kc C45 12 = (.aload_n 0, 0, 0, 0, 0) := rfl
theorem k45_13 : Kc C45 13 = (.getfield 15, 3, 1, 0, 0) := rfl
theorem k45_16 : Kc C45 16 = (.if_icmp .ge 36, 52, 0, 0, 0) := rfl
theorem k45_19 : Kc C45 19 = (.aload_n 0, 0, 0, 0, 0) := rfl
theorem k45_20 : Kc C45 20 = (.aload_n 0, 0, 0, 0, 0) := rfl
theorem k45_21 : Kc C45 21 = (.getfield 24, 3, 3, 0, 0) := rfl
theorem k45_24 : Kc C45 24 = (.aload_n 0, 0, 0, 0, 0) := rfl
theorem k45_25 : Kc C45 25 = (.getfield 31, 3, 5, 0, 0) := rfl
theorem k45_28 : Kc C45 28 = (.aaload, 0, 0, 0, 0) := rfl
theorem k45_29 : Kc C45 29 = (.getfield 72, 4, 5, 0, 0) := rfl
theorem k45_32 : Kc C45 32 = (.putfield 15, 3, 1, 0, 0) := rfl
theorem k45_35 : Kc C45 35 = (.aload_n 0, 0, 0, 0, 0) := rfl
theorem k45_36 : Kc C45 36 = (.getfield 19, 3, 2, 0, 0) := rfl
theorem k45_39 : Kc C45 39 = (.iconst 0, 0, 0, 0, 0) := rfl
theorem k45_40 : Kc C45 40 = (.aload_n 0, 0, 0, 0, 0) := rfl
theorem k45_41 : Kc C45 41 = (.getfield 9, 3, 0, 0, 0) := rfl
theorem k45_44 : Kc C45 44 = (.iconst 0, 0, 0, 0, 0) := rfl
theorem k45_45 : Kc C45 45 = (.aload_n 0, 0, 0, 0, 0) := rfl
theorem k45_46 : Kc C45 46 = (.getfield 31, 3, 5, 0, 0) := rfl
theorem k45_49 : Kc C45 49 = (.invokestatic 43, 1001, 5, 0, 0) := rfl
theorem k45_52 : Kc C45 52 = (.return_, 0, 0, 0, 0) := rfl
theorem ev45 (d : Nat) (x0 : Nat) (h : Hp) : EvM (d + 1) 45 [.ref x0] h = EvI (EvM d) C45 0 0 [.ref x0] [] h := rfl
theorem k46_0 : Kc C46 0 = (.aload_n 0, 0, 0, 0, 0) := rfl
theorem k46_1 : Kc C46 1 = (.invokespecial 3, 1002, 0, 0, 0) := rfl
theorem k46_4 : Kc C46 4 = (.aload_n 0, 0, 0, 0, 0) := rfl
theorem k46_5 : Kc C46 5 = (.iconst 0, 0, 0, 0, 0) := rfl
theorem k46_6 : Kc C46 6 = (.putfield 9, 4, 1, 0, 0) := rfl
theorem k46_9 : Kc C46 9 = (.aload_n 0, 0, 0, 0, 0) := rfl
theorem k46_10 : Kc C46 10 = (.iconst 0, 0, 0, 0, 0) := rfl
theorem k46_11 : Kc C46 11 = (.putfield 15, 4, 2, 0, 0) := rfl
theorem k46_14 : Kc C46 14 = (.aload_n 0, 0, 0, 0, 0) := rfl
theorem k46_15 : Kc C46 15 = (.iconst 0, 0, 0, 0, 0) := rfl
theorem k46_16 : Kc C46 16 = (.putfield 18, 4, 3, 0, 0) := rfl
theorem k46_19 : Kc C46 19 = (.aload_n 0, 0, 0, 0, 0) := rfl
theorem k46_20 : Kc C46 20 = (.iconst 0, 0, 0, 0, 0) := rfl
theorem k46_21 : Kc C46 21 = (.putfield 21, 4, 4, 0, 0) := rfl
theorem k46_24 : Kc C46 24 = (.aload_n 0, 0, 0, 0, 0) := rfl
theorem k46_25 : Kc C46 25 = (.iconst 0, 0, 0, 0, 0) := rfl
theorem k46_26 : Kc C46 26 = (.putfield 24, 4, 5, 0, 0) := rfl
theorem k46_29 : Kc C46 29 = (.aload_n 0, 0, 0, 0, 0) := rfl
theorem k46_30 : Kc C46 30 = (.iconst 0, 0, 0, 0, 0) := rfl
theorem k46_31 : Kc C46 31 = (.putfield 27, 4, 6, 0, 0) := rfl
theorem k46_34 : Kc C46 34 = (.aload_n 0, 0, 0, 0, 0) := rfl
theorem k46_35 : Kc C46 35 = (.iconst 0, 0, 0, 0, 0) := rfl
theorem k46_36 : Kc C46 36 = (.putfield 30, 4, 7, 0, 0) := rfl
theorem k46_39 : Kc C46 39 = (.aload_n 0, 0, 0, 0, 0) := rfl
theorem k46_40 : Kc C46 40 = (.bipush 6, 0, 0, 0, 6) := rfl
theorem k46_42 : Kc C46 42 = (.newarray .int, 0, 0, 0, 0) := rfl
theorem k46_44 : Kc C46 44 = (.putfield 33, 4, 8, 0, 0) := rfl
theorem k46_47 : Kc C46 47 = (.aload_n 0, 0, 0, 0, 0) := rfl
theorem k46_48 : Kc C46 48 = (.bipush 6, 0, 0, 0, 6) := rfl
theorem k46_50 : Kc C46 50 = (.newarray .int, 0, 0, 0, 0) := rfl
theorem k46_52 : Kc C46 52 = (.putfield 37, 4, 9, 0, 0) := rfl
theorem k46_55 : Kc C46 55 = (.aload_n 0, 0, 0, 0, 0) := rfl
theorem k46_56 : Kc C46 56 = (.iload_n 1, 1, 0, 0, 0) := rfl
theorem k46_57 : Kc C46 57 = (.putfield 40, 4, 0, 0, 0) := rfl
theorem k46_60 : Kc C46 60 = (.return_, 0, 0, 0, 0) := rfl
theorem ev46 (d : Nat) (x0 : Nat) (x1 : Int32) (h : Hp) : EvM (d + 1) 46 [.ref x0, .int x1] h = EvI (EvM d) C46 0 0 [.ref x0, .int x1] [] h := rfl
theorem k47_0 : Kc C47 0 = (.aload_n 0, 0, 0, 0, 0) := rfl
theorem k47_1 : Kc C47 1 = (.iconst 0, 0, 0, 0, 0) := rfl
theorem k47_2 : Kc C47 2 = (.putfield 9, 4, 1, 0, 0) := rfl
theorem k47_5 : Kc C47 5 = (.aload_n 0, 0, 0, 0, 0) := rfl
theorem k47_6 : Kc C47 6 = (.iconst 0, 0, 0, 0, 0) := rfl
theorem k47_7 : Kc C47 7 = (.putfield 15, 4, 2, 0, 0) := rfl
theorem k47_10 : Kc C47 10 = (.aload_n 0, 0, 0, 0, 0) := rfl
theorem k47_11 : Kc C47 11 = (.iconst 0, 0, 0, 0, 0) := rfl
theorem k47_12 : Kc C47 12 = (.putfield 18, 4, 3, 0, 0) := rfl
theorem k47_15 : Kc C47 15 = (.aload_n 0, 0, 0, 0, 0) := rfl
theorem k47_16 : Kc C47 16 = (.iconst 0, 0, 0, 0, 0) := rfl
theorem k47_17 : Kc C47 17 = (.putfield 21, 4, 4, 0, 0) := rfl
theorem k47_20 : Kc C47 20 = (.aload_n 0, 0, 0, 0, 0) := rfl
theorem k47_21 : Kc C47 21 = (.iconst 0, 0, 0, 0, 0) := rfl
theorem k47_22 : Kc C47 22 = (.putfield 24, 4, 5, 0, 0) := rfl
theorem k47_25 : Kc C47 25 = (.aload_n 0, 0, 0, 0, 0) := rfl
theorem k47_26 : Kc C47 26 = (.iconst 0, 0, 0, 0, 0) := rfl
theorem k47_27 : Kc C47 27 = (.putfield 27, 4, 6, 0, 0) := rfl
theorem k47_30 : Kc C47 30 = (.aload_n 0, 0, 0, 0, 0) := rfl
theorem k47_31 : Kc C47 31 = (.iconst 0, 0, 0, 0, 0) := rfl
theorem k47_32 : Kc C47 32 = (.putfield 30, 4, 7, 0, 0) := rfl
theorem k47_35 : Kc C47 35 = (.return_, 0, 0, 0, 0) := rfl
theorem ev47 (d : Nat) (x0 : Nat) (h : Hp) : EvM (d + 1) 47 [.ref x0] h = EvI (EvM d) C47 0 0 [.ref x0] [] h := rfl
theorem k48_0 : Kc C48 0 = (.aload_n 0, 0, 0, 0, 0) := rfl
theorem k48_1 : Kc C48 1 = (.aload_n 1, 1, 0, 0, 0) := rfl
theorem k48_2 : Kc C48 2 = (.getfield 9, 4, 1, 0, 0) := rfl
theorem k48_5 : Kc C48 5 = (.putfield 9, 4, 1, 0, 0) := rfl
theorem k48_8 : Kc C48 8 = (.aload_n 0, 0, 0, 0, 0) := rfl
theorem k48_9 : Kc C48 9 = (.aload_n 1, 1, 0, 0, 0) := rfl
theorem k48_10 : Kc C48 10 = (.getfield 15, 4, 2, 0, 0) := rfl
theorem k48_13 : Kc C48 13 = (.putfield 15, 4, 2, 0, 0) := rfl
theorem k48_16 : Kc C48 16 = (.aload_n 0, 0, 0, 0, 0) := rfl
theorem k48_17 : Kc C48 17 = (.aload_n 1, 1, 0, 0, 0) := rfl
theorem k48_18 : Kc C48 18 = (.getfield 18, 4, 3, 0, 0) := rfl
theorem k48_21 : Kc C48 21 = (.putfield 18, 4, 3, 0, 0) := rfl
theorem k48_24 : Kc C48 24 = (.aload_n 0, 0, 0, 0, 0) := rfl
theorem k48_25 : Kc C48 25 = (.aload_n 1, 1, 0, 0, 0) := rfl
theorem k48_26 : Kc C48 26 = (.getfield 21, 4, 4, 0, 0) := rfl
theorem k48_29 : Kc C48 29 = (.putfield 21, 4, 4, 0, 0) := rfl
theorem k48_32 : Kc C48 32 = (.aload_n 0, 0, 0, 0, 0) := rfl
theorem k48_33 : Kc C48 33 = (.aload_n 1, 1, 0, 0, 0) := rfl
theorem k48_34 : Kc C48 34 = (.getfield 24, 4, 5, 0, 0) := rfl
theorem k48_37 : Kc C48 37 = (.putfield 24, 4, 5, 0, 0) := rfl
theorem k48_40 : Kc C48 40 = (.aload_n 0, 0, 0, 0, 0) := rfl
theorem k48_41 : Kc C48 41 = (.aload_n 1, 1, 0, 0, 0) := rfl
theorem k48_42 : Kc C48 42 = (.getfield 27, 4, 6, 0, 0) := rfl
theorem k48_45 : Kc C48 45 = (.putfield 27, 4, 6, 0, 0) := rfl
theorem k48_48 : Kc C48 48 = (.aload_n 0, 0, 0, 0, 0) := rfl
theorem k48_49 : Kc C48 49 = (.aload_n 1, 1, 0, 0, 0) := rfl
theorem k48_50 : Kc C48 50 = (.getfield 30, 4, 7, 0, 0) := rfl
theorem k48_53 : Kc C48 53 = (.putfield 30, 4, 7, 0, 0) := rfl
theorem k48_56 : Kc C48 56 = (.iconst 0, 0, 0, 0, 0) := rfl
theorem k48_57 : Kc C48 57 = (.istore_n 2, 2, 0, 0, 0) := rfl
theorem k48_58 : Kc C48 58 = (.iload_n 2, 2, 0, 0, 0) := rfl
theorem k48_59 : Kc C48 59 = (.aload_n 0, 0, 0, 0, 0) := rfl
theorem k48_60 : Kc C48 60 = (.getfield 30, 4, 7, 0, 0) := rfl
theorem k48_63 : Kc C48 63 = (.if_icmp .ge 33, 96, 0, 0, 0) := rfl
theorem k48_66 : Kc C48 66 = (.aload_n 0, 0, 0, 0, 0) := rfl
theorem k48_67 : Kc C48 67 = (.getfield 33, 4, 8, 0, 0) := rfl
theorem k48_70 : Kc C48 70 = (.iload_n 2, 2, 0, 0, 0) := rfl
theorem k48_71 : Kc C48 71 = (.aload_n 1, 1, 0, 0, 0) := rfl
theorem k48_72 : Kc C48 72 = (.getfield 33, 4, 8, 0, 0) := rfl
theorem k48_75 : Kc C48 75 = (.iload_n 2, 2, 0, 0, 0) := rfl
theorem k48_76 : Kc C48 76 = (.iaload, 0, 0, 0, 0) := rfl
theorem k48_77 : Kc C48 77 = (.iastore, 0, 0, 0, 0) := rfl
theorem k48_78 : Kc C48 78 = (.aload_n 0, 0, 0, 0, 0) := rfl
theorem k48_79 : Kc C48 79 = (.getfield 37, 4, 9, 0, 0) := rfl
theorem k48_82 : Kc C48 82 = (.iload_n 2, 2, 0, 0, 0) := rfl
theorem k48_83 : Kc C48 83 = (.aload_n 1, 1, 0, 0, 0) := rfl
theorem k48_84 : Kc C48 84 = (.getfield 37, 4, 9, 0, 0) := rfl
theorem k48_87 : Kc C48 87 = (.iload_n 2, 2, 0, 0, 0) := rfl
theorem k48_88 : Kc C48 88 = (.iaload, 0, 0, 0, 0) := rfl
theorem k48_89 : Kc C48 89 = (.iastore, 0, 0, 0, 0) := rfl
theorem k48_90 : Kc C48 90 = (.iinc 2 1, 2, 0, 0, 1) := rfl
theorem k48_93 : Kc C48 93 = (.goto (-35), 58, 0, 0, 0) := rfl
theorem k48_96 : Kc C48 96 = (.return_, 0, 0, 0, 0) := rfl
theorem ev48 (d : Nat) (x0 : Nat) (x1 : Nat) (h : Hp) : EvM (d + 1) 48 [.ref x0, .ref x1] h = EvI (EvM d) C48 0 0 [.ref x0, .ref x1, jk] [] h := rfl
theorem k49_0 : Kc C49 0 = (.getstatic 43, 0, 0, 0, 0) := rfl
theorem k49_3 : Kc C49 3 = (.aload_n 0, 0, 0, 0, 0) := rfl
theorem k49_4 : Kc C49 4 = (.getfield 9, 4, 1, 0, 0) := rfl
theorem k49_7 : Kc C49 7 = (.iaload, 0, 0, 0, 0) := rfl
theorem k49_8 : Kc C49 8 = (.iload_n 1, 1, 0, 0, 0) := rfl
theorem k49_9 : Kc C49 9 = (.ishr, 0, 0, 0, 0) := rfl
theorem k49_10 : Kc C49 10 = (.iconst 1, 0, 0, 0, 1) := rfl
theorem k49_11 : Kc C49 11 = (.iand, 0, 0, 0, 0) := rfl
theorem k49_12 : Kc C49 12 = (.iconst 1, 0, 0, 0, 1) := rfl
theorem k49_13 : Kc C49 13 = (.if_icmp .ne 7, 20, 0, 0, 0) := rfl
theorem k49_16 : Kc C49 16 = (.iconst 1, 0, 0, 0, 1) := rfl
theorem k49_17 : Kc C49 17 = (.goto 4, 21, 0, 0, 0) := rfl
theorem k49_20 : Kc C49 20 = (.iconst 0, 0, 0, 0, 0) := rfl
theorem k49_21 : Kc C49 21 = (.ireturn, 0, 0, 0, 0) := rfl
theorem ev49 (d : Nat) (x0 : Nat) (x1 : Int32) (h : Hp) : EvM (d + 1) 49 [.ref x0, .int x1] h = EvI (EvM d) C49 2 0 [.ref x0, .int x1] [] h := rfl
theorem k50_0 : Kc C50 0 = (.iconst 0, 0, 0, 0, 0) := rfl
theorem k50_1 : Kc C50 1 = (.istore_n 1, 1, 0, 0, 0) := rfl
theorem k50_2 : Kc C50 2 = (.iconst 0, 0, 0, 0, 0) := rfl
theorem k50_3 : Kc C50 3 = (.istore_n 2, 2, 0, 0, 0) := rfl
theorem k50_4 : Kc C50 4 = (.iload_n 2, 2, 0, 0, 0) := rfl
theorem k50_5 : Kc C50 5 = (.aload_n 0, 0, 0, 0, 0) := rfl
theorem k50_6 : Kc C50 6 = (.getfield 30, 4, 7, 0, 0) := rfl
theorem k50_9 : Kc C50 9 = (.if_icmp .ge 18, 27, 0, 0, 0) := rfl
theorem k50_12 : Kc C50 12 = (.iload_n 1, 1, 0, 0, 0) := rfl
theorem k50_13 : Kc C50 13 = (.aload_n 0, 0, 0, 0, 0) := rfl
theorem k50_14 : Kc C50 14 = (.getfield 33, 4, 8, 0, 0) := rfl
theorem k50_17 : Kc C50 17 = (.iload_n 2, 2, 0, 0, 0) := rfl
theorem k50_18 : Kc C50 18 = (.iaload, 0, 0, 0, 0) := rfl
theorem k50_19 : Kc C50 19 = (.iadd, 0, 0, 0, 0) := rfl
theorem k50_20 : Kc C50 20 = (.istore_n 1, 1, 0, 0, 0) := rfl
theorem k50_21 : Kc C50 21 = (.iinc 2 1, 2, 0, 0, 1) := rfl
theorem k50_24 : Kc C50 24 = (.goto (-20), 4, 0, 0, 0) := rfl
theorem k50_27 : Kc C50 27 = (.iload_n 1, 1, 0, 0, 0) := rfl
theorem k50_28 : Kc C50 28 = (.ireturn, 0, 0, 0, 0) := rfl
theorem ev50 (d : Nat) (x0 : Nat) (h : Hp) : EvM (d + 1) 50 [.ref x0] h = EvI (EvM d) C50 1 0 [.ref x0, jk, jk] [] h := rfl
theorem k51_0 : Kc C51 0 = (.aload_n 0, 0, 0, 0, 0) := rfl
theorem k51_1 : Kc C51 1 = (.getfield 18, 4, 3, 0, 0) := rfl
theorem k51_4 : Kc C51 4 = (.aload_n 0, 0, 0, 0, 0) := rfl
theorem k51_5 : Kc C51 5 = (.invokevirtual 46, 50, 0, 13, 0) := rfl
theorem k51_8 : Kc C51 8 = (.imul, 0, 0, 0, 0) := rfl
theorem k51_9 : Kc C51 9 = (.aload_n 0, 0, 0, 0, 0) := rfl
theorem k51_10 : Kc C51 10 = (.getfield 21, 4, 4, 0, 0) := rfl
theorem k51_13 : Kc C51 13 = (.iadd, 0, 0, 0, 0) := rfl
theorem k51_14 : Kc C51 14 = (.ireturn, 0, 0, 0, 0) := rfl
theorem ev51 (d : Nat) (x0 : Nat) (h : Hp) : EvM (d + 1) 51 [.ref x0] h = EvI (EvM d) C51 1 0 [.ref x0] [] h := rfl
theorem k52_0 : Kc C52 0 = (.aload_n 0, 0, 0, 0, 0) := rfl
theorem k52_1 : Kc C52 1 = (.getfield 30, 4, 7, 0, 0) := rfl
theorem k52_4 : Kc C52 4 = (.bipush 6, 0, 0, 0, 6) := rfl
theorem k52_6 : Kc C52 6 = (.if_icmp .lt 14, 20, 0, 0, 0) := rfl
theorem k52_9 : Kc C52 9 = (.aload_n 0, 0, 0, 0, 0) := rfl
theorem k52_10 : Kc C52 10 = (.getfield 33, 4, 8, 0, 0) := rfl
theorem k52_13 : Kc C52 13 = (.iconst 5, 0, 0, 0, 5) := rfl
theorem k52_14 : Kc C52 14 = (.dup2, 0, 0, 0, 0) := rfl
theorem k52_15 : Kc C52 15 = (.iaload, 0, 0, 0, 0) := rfl
theorem k52_16 : Kc C52 16 = (.iload_n 1, 1, 0, 0, 0) := rfl
theorem k52_17 : Kc C52 17 = (.iadd, 0, 0, 0, 0) := rfl
theorem k52_18 : Kc C52 18 = (.iastore, 0, 0, 0, 0) := rfl
theorem k52_19 : Kc C52 19 = (.return_, 0, 0, 0, 0) := rfl
theorem k52_20 : Kc C52 20 = (.aload_n 0, 0, 0, 0, 0) := rfl
theorem k52_21 : Kc C52 21 = (.getfield 33, 4, 8, 0, 0) := rfl
theorem k52_24 : Kc C52 24 = (.aload_n 0, 0, 0, 0, 0) := rfl
theorem k52_25 : Kc C52 25 = (.getfield 30, 4, 7, 0, 0) := rfl
theorem k52_28 : Kc C52 28 = (.iload_n 1, 1, 0, 0, 0) := rfl
theorem k52_29 : Kc C52 29 = (.iastore, 0, 0, 0, 0) := rfl
theorem k52_30 : Kc C52 30 = (.aload_n 0, 0, 0, 0, 0) := rfl
theorem k52_31 : Kc C52 31 = (.getfield 37, 4, 9, 0, 0) := rfl
theorem k52_34 : Kc C52 34 = (.aload_n 0, 0, 0, 0, 0) := rfl
theorem k52_35 : Kc C52 35 = (.getfield 30, 4, 7, 0, 0) := rfl
theorem k52_38 : Kc C52 38 = (.iload_n 2, 2, 0, 0, 0) := rfl
theorem k52_39 : Kc C52 39 = (.iastore, 0, 0, 0, 0) := rfl
theorem k52_40 : Kc C52 40 = (.aload_n 0, 0, 0, 0, 0) := rfl
theorem k52_41 : Kc C52 41 = (.dup, 0, 0, 0, 0) := rfl
theorem k52_42 : Kc C52 42 = (.getfield 30, 4, 7, 0, 0) := rfl
theorem k52_45 : Kc C52 45 = (.iconst 1, 0, 0, 0, 1) := rfl
theorem k52_46 : Kc C52 46 = (.iadd, 0, 0, 0, 0) := rfl
theorem k52_47 : Kc C52 47 = (.putfield 30, 4, 7, 0, 0) := rfl
theorem k52_50 : Kc C52 50 = (.return_, 0, 0, 0, 0) := rfl
theorem ev52 (d : Nat) (x0 : Nat) (x1 : Int32) (x2 : Int32) (h : Hp) : EvM (d + 1) 52 [.ref x0, .int x1, .int x2] h = EvI (EvM d) C52 0 0 [.ref x0, .int x1, .int x2] [] h := rfl
theorem k53_0 : Kc C53 0 = (.aload_n 0, 0, 0, 0, 0) := rfl
theorem k53_1 : Kc C53 1 = (.iconst 4, 0, 0, 0, 4) := rfl
theorem k53_2 : Kc C53 2 = (.invokevirtual 50, 49, 1, 14, 0) := rfl
theorem k53_5 : Kc C53 5 = (.istore_n 2, 2, 0, 0, 0) := rfl
theorem k53_6 : Kc C53 6 = (.iload_n 1, 1, 0, 0, 0) := rfl
theorem k53_7 : Kc C53 7 = (.istore_n 3, 3, 0, 0, 0) := rfl
theorem k53_8 : Kc C53 8 = (.iconst 0, 0, 0, 0, 0) := rfl
theorem k53_9 : Kc C53 9 = (.istore 4, 4, 0, 0, 0) := rfl
theorem k53_11 : Kc C53 11 = (.iload 4, 4, 0, 0, 0) := rfl
theorem k53_13 : Kc C53 13 = (.aload_n 0, 0, 0, 0, 0) := rfl
theorem k53_14 : Kc C53 14 = (.getfield 30, 4, 7, 0, 0) := rfl
theorem k53_17 : Kc C53 17 = (.if_icmp .ge 63, 80, 0, 0, 0) := rfl
theorem k53_20 : Kc C53 20 = (.iload_n 3, 3, 0, 0, 0) := rfl
theorem k53_21 : Kc C53 21 = (.ifCond .le 59, 80, 0, 0, 0) := rfl
theorem k53_24 : Kc C53 24 = (.iload_n 2, 2, 0, 0, 0) := rfl
theorem k53_25 : Kc C53 25 = (.ifCond .eq 15, 40, 0, 0, 0) := rfl
theorem k53_28 : Kc C53 28 = (.aload_n 0, 0, 0, 0, 0) := rfl
theorem k53_29 : Kc C53 29 = (.getfield 30, 4, 7, 0, 0) := rfl
theorem k53_32 : Kc C53 32 = (.iconst 1, 0, 0, 0, 1) := rfl
theorem k53_33 : Kc C53 33 = (.isub, 0, 0, 0, 0) := rfl
theorem k53_34 : Kc C53 34 = (.iload 4, 4, 0, 0, 0) := rfl
theorem k53_36 : Kc C53 36 = (.isub, 0, 0, 0, 0) := rfl
theorem k53_37 : Kc C53 37 = (.goto 5, 42, 0, 0, 0) := rfl
theorem k53_40 : Kc C53 40 = (.iload 4, 4, 0, 0, 0) := rfl
theorem k53_42 : Kc C53 42 = (.istore 5, 5, 0, 0, 0) := rfl
theorem k53_44 : Kc C53 44 = (.iload_n 3, 3, 0, 0, 0) := rfl
theorem k53_45 : Kc C53 45 = (.aload_n 0, 0, 0, 0, 0) := rfl
theorem k53_46 : Kc C53 46 = (.getfield 33, 4, 8, 0, 0) := rfl
theorem k53_49 : Kc C53 49 = (.iload 5, 5, 0, 0, 0) := rfl
theorem k53_51 : Kc C53 51 = (.iaload, 0, 0, 0, 0) := rfl
theorem k53_52 : Kc C53 52 = (.invokestatic 54, 1000, 2, 0, 0) := rfl
theorem k53_55 : Kc C53 55 = (.istore 6, 6, 0, 0, 0) := rfl
theorem k53_57 : Kc C53 57 = (.aload_n 0, 0, 0, 0, 0) := rfl
theorem k53_58 : Kc C53 58 = (.getfield 33, 4, 8, 0, 0) := rfl
theorem k53_61 : Kc C53 61 = (.iload 5, 5, 0, 0, 0) := rfl
theorem k53_63 : Kc C53 63 = (.dup2, 0, 0, 0, 0) := rfl
theorem k53_64 : Kc C53 64 = (.iaload, 0, 0, 0, 0) := rfl
theorem k53_65 : Kc C53 65 = (.iload 6, 6, 0, 0, 0) := rfl
theorem k53_67 : Kc C53 67 = (.isub, 0, 0, 0, 0) := rfl
theorem k53_68 : Kc C53 68 = (.iastore, 0, 0, 0, 0) := rfl
theorem k53_69 : Kc C53 69 = (.iload_n 3, 3, 0, 0, 0) := rfl
theorem k53_70 : Kc C53 70 = (.iload 6, 6, 0, 0, 0) := rfl
theorem k53_72 : Kc C53 72 = (.isub, 0, 0, 0, 0) := rfl
theorem k53_73 : Kc C53 73 = (.istore_n 3, 3, 0, 0, 0) := rfl
theorem k53_74 : Kc C53 74 = (.iinc 4 1, 4, 0, 0, 1) := rfl
theorem k53_77 : Kc C53 77 = (.goto (-66), 11, 0, 0, 0) := rfl
theorem k53_80 : Kc C53 80 = (.aload_n 0, 0, 0, 0, 0) := rfl
theorem k53_81 : Kc C53 81 = (.invokevirtual 60, 59, 0, 12, 0) := rfl
theorem k53_84 : Kc C53 84 = (.iload_n 3, 3, 0, 0, 0) := rfl
theorem k53_85 : Kc C53 85 = (.ireturn, 0, 0, 0, 0) := rfl
theorem ev53 (d : Nat) (x0 : Nat) (x1 : Int32) (h : Hp) : EvM (d + 1) 53 [.ref x0, .int x1] h = EvI (EvM d) C53 1 0 [.ref x0, .int x1, jk, jk, jk, jk, jk] [] h := rfl
theorem k54_0 : Kc C54 0 = (.aload_n 0, 0, 0, 0, 0) := rfl
theorem k54_1 : Kc C54 1 = (.sipush 9999, 0, 0, 0, 9999) := rfl
theorem k54_4 : Kc C54 4 = (.aload_n 0, 0, 0, 0, 0) := rfl
theorem k54_5 : Kc C54 5 = (.getfield 24, 4, 5, 0, 0) := rfl
theorem k54_8 : Kc C54 8 = (.aload_n 0, 0, 0, 0, 0) := rfl
theorem k54_9 : Kc C54 9 = (.iload_n 1, 1, 0, 0, 0) := rfl
theorem k54_10 : Kc C54 10 = (.invokevirtual 63, 53, 1, 13, 0) := rfl
theorem k54_13 : Kc C54 13 = (.iadd, 0, 0, 0, 0) := rfl
theorem k54_14 : Kc C54 14 = (.invokestatic 54, 1000, 2, 0, 0) := rfl
theorem k54_17 : Kc C54 17 = (.putfield 24, 4, 5, 0, 0) := rfl
theorem k54_20 : Kc C54 20 = (.aload_n 0, 0, 0, 0, 0) := rfl
theorem k54_21 : Kc C54 21 = (.dup, 0, 0, 0, 0) := rfl
theorem k54_22 : Kc C54 22 = (.getfield 27, 4, 6, 0, 0) := rfl
theorem k54_25 : Kc C54 25 = (.iconst 1, 0, 0, 0, 1) := rfl
theorem k54_26 : Kc C54 26 = (.iadd, 0, 0, 0, 0) := rfl
theorem k54_27 : Kc C54 27 = (.putfield 27, 4, 6, 0, 0) := rfl
theorem k54_30 : Kc C54 30 = (.return_, 0, 0, 0, 0) := rfl
theorem ev54 (d : Nat) (x0 : Nat) (x1 : Int32) (h : Hp) : EvM (d + 1) 54 [.ref x0, .int x1] h = EvI (EvM d) C54 0 0 [.ref x0, .int x1] [] h := rfl
theorem k55_0 : Kc C55 0 = (.iconst 0, 0, 0, 0, 0) := rfl
theorem k55_1 : Kc C55 1 = (.istore_n 3, 3, 0, 0, 0) := rfl
theorem k55_2 : Kc C55 2 = (.iload_n 3, 3, 0, 0, 0) := rfl
theorem k55_3 : Kc C55 3 = (.aload_n 0, 0, 0, 0, 0) := rfl
theorem k55_4 : Kc C55 4 = (.getfield 30, 4, 7, 0, 0) := rfl
theorem k55_7 : Kc C55 7 = (.if_icmp .ge 20, 27, 0, 0, 0) := rfl
theorem k55_10 : Kc C55 10 = (.aload_n 1, 1, 0, 0, 0) := rfl
theorem k55_11 : Kc C55 11 = (.aload_n 0, 0, 0, 0, 0) := rfl
theorem k55_12 : Kc C55 12 = (.getfield 33, 4, 8, 0, 0) := rfl
theorem k55_15 : Kc C55 15 = (.iload_n 3, 3, 0, 0, 0) := rfl
theorem k55_16 : Kc C55 16 = (.iaload, 0, 0, 0, 0) := rfl
theorem k55_17 : Kc C55 17 = (.iload_n 2, 2, 0, 0, 0) := rfl
theorem k55_18 : Kc C55 18 = (.invokevirtual 67, 52, 2, 12, 0) := rfl
theorem k55_21 : Kc C55 21 = (.iinc 3 1, 3, 0, 0, 1) := rfl
theorem k55_24 : Kc C55 24 = (.goto (-22), 2, 0, 0, 0) := rfl
theorem k55_27 : Kc C55 27 = (.aload_n 1, 1, 0, 0, 0) := rfl
theorem k55_28 : Kc C55 28 = (.dup, 0, 0, 0, 0) := rfl
theorem k55_29 : Kc C55 29 = (.getfield 21, 4, 4, 0, 0) := rfl
theorem k55_32 : Kc C55 32 = (.aload_n 0, 0, 0, 0, 0) := rfl
theorem k55_33 : Kc C55 33 = (.getfield 21, 4, 4, 0, 0) := rfl
theorem k55_36 : Kc C55 36 = (.iadd, 0, 0, 0, 0) := rfl
theorem k55_37 : Kc C55 37 = (.putfield 21, 4, 4, 0, 0) := rfl
theorem k55_40 : Kc C55 40 = (.aload_n 0, 0, 0, 0, 0) := rfl
theorem k55_41 : Kc C55 41 = (.iconst 0, 0, 0, 0, 0) := rfl
theorem k55_42 : Kc C55 42 = (.putfield 30, 4, 7, 0, 0) := rfl
theorem k55_45 : Kc C55 45 = (.aload_n 0, 0, 0, 0, 0) := rfl
theorem k55_46 : Kc C55 46 = (.iconst 0, 0, 0, 0, 0) := rfl
theorem k55_47 : Kc C55 47 = (.putfield 21, 4, 4, 0, 0) := rfl
theorem k55_50 : Kc C55 50 = (.aload_n 0, 0, 0, 0, 0) := rfl
theorem k55_51 : Kc C55 51 = (.iconst 0, 0, 0, 0, 0) := rfl
theorem k55_52 : Kc C55 52 = (.putfield 24, 4, 5, 0, 0) := rfl
theorem k55_55 : Kc C55 55 = (.return_, 0, 0, 0, 0) := rfl
theorem ev55 (d : Nat) (x0 : Nat) (x1 : Nat) (x2 : Int32) (h : Hp) : EvM (d + 1) 55 [.ref x0, .ref x1, .int x2] h = EvI (EvM d) C55 0 0 [.ref x0, .ref x1, .int x2, jk] [] h := rfl
theorem k56_0 : Kc C56 0 = (.iconst 0, 0, 0, 0, 0) := rfl
theorem k56_1 : Kc C56 1 = (.istore_n 3, 3, 0, 0, 0) := rfl
theorem k56_2 : Kc C56 2 = (.iconst 0, 0, 0, 0, 0) := rfl
theorem k56_3 : Kc C56 3 = (.istore 4, 4, 0, 0, 0) := rfl
theorem k56_5 : Kc C56 5 = (.iload 4, 4, 0, 0, 0) := rfl
theorem k56_7 : Kc C56 7 = (.aload_n 0, 0, 0, 0, 0) := rfl
theorem k56_8 : Kc C56 8 = (.getfield 30, 4, 7, 0, 0) := rfl
theorem k56_11 : Kc C56 11 = (.if_icmp .ge 34, 45, 0, 0, 0) := rfl
theorem k56_14 : Kc C56 14 = (.iload_n 3, 3, 0, 0, 0) := rfl
theorem k56_15 : Kc C56 15 = (.aload_n 0, 0, 0, 0, 0) := rfl
theorem k56_16 : Kc C56 16 = (.iload 4, 4, 0, 0, 0) := rfl
theorem k56_18 : Kc C56 18 = (.iload_n 1, 1, 0, 0, 0) := rfl
theorem k56_19 : Kc C56 19 = (.iload_n 2, 2, 0, 0, 0) := rfl
theorem k56_20 : Kc C56 20 = (.invokevirtual 71, 58, 3, 14, 0) := rfl
theorem k56_23 : Kc C56 23 = (.ifCond .eq 13, 36, 0, 0, 0) := rfl
theorem k56_26 : Kc C56 26 = (.aload_n 0, 0, 0, 0, 0) := rfl
theorem k56_27 : Kc C56 27 = (.getfield 33, 4, 8, 0, 0) := rfl
theorem k56_30 : Kc C56 30 = (.iload 4, 4, 0, 0, 0) := rfl
theorem k56_32 : Kc C56 32 = (.iaload, 0, 0, 0, 0) := rfl
theorem k56_33 : Kc C56 33 = (.goto 4, 37, 0, 0, 0) := rfl
theorem k56_36 : Kc C56 36 = (.iconst 0, 0, 0, 0, 0) := rfl
theorem k56_37 : Kc C56 37 = (.iadd, 0, 0, 0, 0) := rfl
theorem k56_38 : Kc C56 38 = (.istore_n 3, 3, 0, 0, 0) := rfl
theorem k56_39 : Kc C56 39 = (.iinc 4 1, 4, 0, 0, 1) := rfl
theorem k56_42 : Kc C56 42 = (.goto (-37), 5, 0, 0, 0) := rfl
theorem k56_45 : Kc C56 45 = (.iload_n 3, 3, 0, 0, 0) := rfl
theorem k56_46 : Kc C56 46 = (.ireturn, 0, 0, 0, 0) := rfl
theorem ev56 (d : Nat) (x0 : Nat) (x1 : Int32) (x2 : Int32) (h : Hp) : EvM (d + 1) 56 [.ref x0, .int x1, .int x2] h = EvI (EvM d) C56 1 0 [.ref x0, .int x1, .int x2, jk, jk] [] h := rfl
theorem k57_0 : Kc C57 0 = (.iconst 0, 0, 0, 0, 0) := rfl
theorem k57_1 : Kc C57 1 = (.istore_n 3, 3, 0, 0, 0) := rfl
theorem k57_2 : Kc C57 2 = (.iload_n 3, 3, 0, 0, 0) := rfl
theorem k57_3 : Kc C57 3 = (.aload_n 0, 0, 0, 0, 0) := rfl
theorem k57_4 : Kc C57 4 = (.getfield 30, 4, 7, 0, 0) := rfl
theorem k57_7 : Kc C57 7 = (.if_icmp .ge 26, 33, 0, 0, 0) := rfl
theorem k57_10 : Kc C57 10 = (.aload_n 0, 0, 0, 0, 0) := rfl
theorem k57_11 : Kc C57 11 = (.iload_n 3, 3, 0, 0, 0) := rfl
theorem k57_12 : Kc C57 12 = (.iload_n 1, 1, 0, 0, 0) := rfl
theorem k57_13 : Kc C57 13 = (.iload_n 2, 2, 0, 0, 0) := rfl
theorem k57_14 : Kc C57 14 = (.invokevirtual 71, 58, 3, 14, 0) := rfl
theorem k57_17 : Kc C57 17 = (.ifCond .eq 10, 27, 0, 0, 0) := rfl
theorem k57_20 : Kc C57 20 = (.aload_n 0, 0, 0, 0, 0) := rfl
theorem k57_21 : Kc C57 21 = (.getfield 33, 4, 8, 0, 0) := rfl
theorem k57_24 : Kc C57 24 = (.iload_n 3, 3, 0, 0, 0) := rfl
theorem k57_25 : Kc C57 25 = (.iconst 0, 0, 0, 0, 0) := rfl
theorem k57_26 : Kc C57 26 = (.iastore, 0, 0, 0, 0) := rfl
theorem k57_27 : Kc C57 27 = (.iinc 3 1, 3, 0, 0, 1) := rfl
theorem k57_30 : Kc C57 30 = (.goto (-28), 2, 0, 0, 0) := rfl
theorem k57_33 : Kc C57 33 = (.aload_n 0, 0, 0, 0, 0) := rfl
theorem k57_34 : Kc C57 34 = (.invokevirtual 60, 59, 0, 12, 0) := rfl
theorem k57_37 : Kc C57 37 = (.aload_n 0, 0, 0, 0, 0) := rfl
theorem k57_38 : Kc C57 38 = (.iconst 5, 0, 0, 0, 5) := rfl
theorem k57_39 : Kc C57 39 = (.invokevirtual 50, 49, 1, 14, 0) := rfl
theorem k57_42 : Kc C57 42 = (.ifCond .eq 13, 55, 0, 0, 0) := rfl
theorem k57_45 : Kc C57 45 = (.aload_n 0, 0, 0, 0, 0) := rfl
theorem k57_46 : Kc C57 46 = (.dup, 0, 0, 0, 0) := rfl
theorem k57_47 : Kc C57 47 = (.getfield 24, 4, 5, 0, 0) := rfl
theorem k57_50 : Kc C57 50 = (.iconst 2, 0, 0, 0, 2) := rfl
theorem k57_51 : Kc C57 51 = (.idiv, 0, 0, 0, 0) := rfl
theorem k57_52 : Kc C57 52 = (.putfield 24, 4, 5, 0, 0) := rfl
theorem k57_55 : Kc C57 55 = (.return_, 0, 0, 0, 0) := rfl
theorem ev57 (d : Nat) (x0 : Nat) (x1 : Int32) (x2 : Int32) (h : Hp) : EvM (d + 1) 57 [.ref x0, .int x1, .int x2] h = EvI (EvM d) C57 0 0 [.ref x0, .int x1, .int x2, jk] [] h := rfl
theorem k58_0 : Kc C58 0 = (.aload_n 0, 0, 0, 0, 0) := rfl
theorem k58_1 : Kc C58 1 = (.iconst 3, 0, 0, 0, 3) := rfl
theorem k58_2 : Kc C58 2 = (.invokevirtual 50, 49, 1, 14, 0) := rfl
theorem k58_5 : Kc C58 5 = (.ifCond .ne 19, 24, 0, 0, 0) := rfl
theorem k58_8 : Kc C58 8 = (.iload_n 2, 2, 0, 0, 0) := rfl
theorem k58_9 : Kc C58 9 = (.aload_n 0, 0, 0, 0, 0) := rfl
theorem k58_10 : Kc C58 10 = (.getfield 37, 4, 9, 0, 0) := rfl
theorem k58_13 : Kc C58 13 = (.iload_n 1, 1, 0, 0, 0) := rfl
theorem k58_14 : Kc C58 14 = (.iaload, 0, 0, 0, 0) := rfl
theorem k58_15 : Kc C58 15 = (.isub, 0, 0, 0, 0) := rfl
theorem k58_16 : Kc C58 16 = (.iload_n 3, 3, 0, 0, 0) := rfl
theorem k58_17 : Kc C58 17 = (.if_icmp .lt 7, 24, 0, 0, 0) := rfl
theorem k58_20 : Kc C58 20 = (.iconst 1, 0, 0, 0, 1) := rfl
theorem k58_21 : Kc C58 21 = (.goto 4, 25, 0, 0, 0) := rfl
theorem k58_24 : Kc C58 24 = (.iconst 0, 0, 0, 0, 0) := rfl
theorem k58_25 : Kc C58 25 = (.ireturn, 0, 0, 0, 0) := rfl
theorem ev58 (d : Nat) (x0 : Nat) (x1 : Int32) (x2 : Int32) (x3 : Int32) (h : Hp) : EvM (d + 1) 58 [.ref x0, .int x1, .int x2, .int x3] h = EvI (EvM d) C58 2 0 [.ref x0, .int x1, .int x2, .int x3] [] h := rfl
theorem k59_0 : Kc C59 0 = (.iconst 0, 0, 0, 0, 0) := rfl
theorem k59_1 : Kc C59 1 = (.istore_n 1, 1, 0, 0, 0) := rfl
theorem k59_2 : Kc C59 2 = (.iconst 0, 0, 0, 0, 0) := rfl
theorem k59_3 : Kc C59 3 = (.istore_n 2, 2, 0, 0, 0) := rfl
theorem k59_4 : Kc C59 4 = (.iload_n 2, 2, 0, 0, 0) := rfl
theorem k59_5 : Kc C59 5 = (.aload_n 0, 0, 0, 0, 0) := rfl
theorem k59_6 : Kc C59 6 = (.getfield 30, 4, 7, 0, 0) := rfl
theorem k59_9 : Kc C59 9 = (.if_icmp .ge 45, 54, 0, 0, 0) := rfl
theorem k59_12 : Kc C59 12 = (.aload_n 0, 0, 0, 0, 0) := rfl
theorem k59_13 : Kc C59 13 = (.getfield 33, 4, 8, 0, 0) := rfl
theorem k59_16 : Kc C59 16 = (.iload_n 2, 2, 0, 0, 0) := rfl
theorem k59_17 : Kc C59 17 = (.iaload, 0, 0, 0, 0) := rfl
theorem k59_18 : Kc C59 18 = (.ifCond .le 30, 48, 0, 0, 0) := rfl
theorem k59_21 : Kc C59 21 = (.aload_n 0, 0, 0, 0, 0) := rfl
theorem k59_22 : Kc C59 22 = (.getfield 33, 4, 8, 0, 0) := rfl
theorem k59_25 : Kc C59 25 = (.iload_n 1, 1, 0, 0, 0) := rfl
theorem k59_26 : Kc C59 26 = (.aload_n 0, 0, 0, 0, 0) := rfl
theorem k59_27 : Kc C59 27 = (.getfield 33, 4, 8, 0, 0) := rfl
theorem k59_30 : Kc C59 30 = (.iload_n 2, 2, 0, 0, 0) := rfl
theorem k59_31 : Kc C59 31 = (.iaload, 0, 0, 0, 0) := rfl
theorem k59_32 : Kc C59 32 = (.iastore, 0, 0, 0, 0) := rfl
theorem k59_33 : Kc C59 33 = (.aload_n 0, 0, 0, 0, 0) := rfl
theorem k59_34 : Kc C59 34 = (.getfield 37, 4, 9, 0, 0) := rfl
theorem k59_37 : Kc C59 37 = (.iload_n 1, 1, 0, 0, 0) := rfl
theorem k59_38 : Kc C59 38 = (.aload_n 0, 0, 0, 0, 0) := rfl
theorem k59_39 : Kc C59 39 = (.getfield 37, 4, 9, 0, 0) := rfl
theorem k59_42 : Kc C59 42 = (.iload_n 2, 2, 0, 0, 0) := rfl
theorem k59_43 : Kc C59 43 = (.iaload, 0, 0, 0, 0) := rfl
theorem k59_44 : Kc C59 44 = (.iastore, 0, 0, 0, 0) := rfl
theorem k59_45 : Kc C59 45 = (.iinc 1 1, 1, 0, 0, 1) := rfl
theorem k59_48 : Kc C59 48 = (.iinc 2 1, 2, 0, 0, 1) := rfl
theorem k59_51 : Kc C59 51 = (.goto (-47), 4, 0, 0, 0) := rfl
theorem k59_54 : Kc C59 54 = (.aload_n 0, 0, 0, 0, 0) := rfl
theorem k59_55 : Kc C59 55 = (.iload_n 1, 1, 0, 0, 0) := rfl
theorem k59_56 : Kc C59 56 = (.putfield 30, 4, 7, 0, 0) := rfl
theorem k59_59 : Kc C59 59 = (.return_, 0, 0, 0, 0) := rfl
theorem ev59 (d : Nat) (x0 : Nat) (h : Hp) : EvM (d + 1) 59 [.ref x0] h = EvI (EvM d) C59 0 0 [.ref x0, jk, jk] [] h := rfl
theorem k60_0 : Kc C60 0 = (.aload_n 0, 0, 0, 0, 0) := rfl
theorem k60_1 : Kc C60 1 = (.invokespecial 3, 1002, 0, 0, 0) := rfl
theorem k60_4 : Kc C60 4 = (.aload_n 0, 0, 0, 0, 0) := rfl
theorem k60_5 : Kc C60 5 = (.bipush 8, 0, 0, 0, 8) := rfl
theorem k60_7 : Kc C60 7 = (.newarray .int, 0, 0, 0, 0) := rfl
theorem k60_9 : Kc C60 9 = (.dup, 0, 0, 0, 0) := rfl
theorem k60_10 : Kc C60 10 = (.iconst 0, 0, 0, 0, 0) := rfl
theorem k60_11 : Kc C60 11 = (.iconst (-1), 0, 0, 0, (-1)) := rfl
theorem k60_12 : Kc C60 12 = (.iastore, 0, 0, 0, 0) := rfl
theorem k60_13 : Kc C60 13 = (.dup, 0, 0, 0, 0) := rfl
theorem k60_14 : Kc C60 14 = (.iconst 1, 0, 0, 0, 1) := rfl
theorem k60_15 : Kc C60 15 = (.iconst (-1), 0, 0, 0, (-1)) := rfl
theorem k60_16 : Kc C60 16 = (.iastore, 0, 0, 0, 0) := rfl
theorem k60_17 : Kc C60 17 = (.dup, 0, 0, 0, 0) := rfl
theorem k60_18 : Kc C60 18 = (.iconst 2, 0, 0, 0, 2) := rfl
theorem k60_19 : Kc C60 19 = (.iconst (-1), 0, 0, 0, (-1)) := rfl
theorem k60_20 : Kc C60 20 = (.iastore, 0, 0, 0, 0) := rfl
theorem k60_21 : Kc C60 21 = (.dup, 0, 0, 0, 0) := rfl
theorem k60_22 : Kc C60 22 = (.iconst 3, 0, 0, 0, 3) := rfl
theorem k60_23 : Kc C60 23 = (.iconst (-1), 0, 0, 0, (-1)) := rfl
theorem k60_24 : Kc C60 24 = (.iastore, 0, 0, 0, 0) := rfl
theorem k60_25 : Kc C60 25 = (.dup, 0, 0, 0, 0) := rfl
theorem k60_26 : Kc C60 26 = (.iconst 4, 0, 0, 0, 4) := rfl
theorem k60_27 : Kc C60 27 = (.iconst (-1), 0, 0, 0, (-1)) := rfl
theorem k60_28 : Kc C60 28 = (.iastore, 0, 0, 0, 0) := rfl
theorem k60_29 : Kc C60 29 = (.dup, 0, 0, 0, 0) := rfl
theorem k60_30 : Kc C60 30 = (.iconst 5, 0, 0, 0, 5) := rfl
theorem k60_31 : Kc C60 31 = (.iconst (-1), 0, 0, 0, (-1)) := rfl
theorem k60_32 : Kc C60 32 = (.iastore, 0, 0, 0, 0) := rfl
theorem k60_33 : Kc C60 33 = (.dup, 0, 0, 0, 0) := rfl
theorem k60_34 : Kc C60 34 = (.bipush 6, 0, 0, 0, 6) := rfl
theorem k60_36 : Kc C60 36 = (.iconst (-1), 0, 0, 0, (-1)) := rfl
theorem k60_37 : Kc C60 37 = (.iastore, 0, 0, 0, 0) := rfl
theorem k60_38 : Kc C60 38 = (.dup, 0, 0, 0, 0) := rfl
theorem k60_39 : Kc C60 39 = (.bipush 7, 0, 0, 0, 7) := rfl
theorem k60_41 : Kc C60 41 = (.iconst (-1), 0, 0, 0, (-1)) := rfl
theorem k60_42 : Kc C60 42 = (.iastore, 0, 0, 0, 0) := rfl
theorem k60_43 : Kc C60 43 = (.putfield 11, 5, 0, 0, 0) := rfl
theorem k60_46 : Kc C60 46 = (.aload_n 0, 0, 0, 0, 0) := rfl
theorem k60_47 : Kc C60 47 = (.bipush 8, 0, 0, 0, 8) := rfl
theorem k60_49 : Kc C60 49 = (.newarray .int, 0, 0, 0, 0) := rfl
theorem k60_51 : Kc C60 51 = (.putfield 15, 5, 1, 0, 0) := rfl
theorem k60_54 : Kc C60 54 = (.aload_n 0, 0, 0, 0, 0) := rfl
theorem k60_55 : Kc C60 55 = (.bipush 8, 0, 0, 0, 8) := rfl
theorem k60_57 : Kc C60 57 = (.bipush 40, 0, 0, 0, 40) := rfl
theorem k60_59 : Kc C60 59 = (.multianewarray 18 2, 2, 0, 0, 0) := rfl
theorem k60_63 : Kc C60 63 = (.putfield 20, 5, 2, 0, 0) := rfl
theorem k60_66 : Kc C60 66 = (.return_, 0, 0, 0, 0) := rfl
theorem ev60 (d : Nat) (x0 : Nat) (h : Hp) : EvM (d + 1) 60 [.ref x0] h = EvI (EvM d) C60 0 0 [.ref x0] [] h := rfl
theorem k61_0 : Kc C61 0 = (.aload_n 0, 0, 0, 0, 0) := rfl
theorem k61_1 : Kc C61 1 = (.getfield 11, 5, 0, 0, 0) := rfl
theorem k61_4 : Kc C61 4 = (.iload_n 1, 1, 0, 0, 0) := rfl
theorem k61_5 : Kc C61 5 = (.iaload, 0, 0, 0, 0) := rfl
theorem k61_6 : Kc C61 6 = (.iconst (-1), 0, 0, 0, (-1)) := rfl
theorem k61_7 : Kc C61 7 = (.if_icmp .ne 7, 14, 0, 0, 0) := rfl
theorem k61_10 : Kc C61 10 = (.iconst 1, 0, 0, 0, 1) := rfl
theorem k61_11 : Kc C61 11 = (.goto 4, 15, 0, 0, 0) := rfl
theorem k61_14 : Kc C61 14 = (.iconst 0, 0, 0, 0, 0) := rfl
theorem k61_15 : Kc C61 15 = (.ireturn, 0, 0, 0, 0) := rfl
theorem ev61 (d : Nat) (x0 : Nat) (x1 : Int32) (h : Hp) : EvM (d + 1) 61 [.ref x0, .int x1] h = EvI (EvM d) C61 2 0 [.ref x0, .int x1] [] h := rfl
theorem k62_0 : Kc C62 0 = (.aload_n 0, 0, 0, 0, 0) := rfl
theorem k62_1 : Kc C62 1 = (.getfield 11, 5, 0, 0, 0) := rfl
theorem k62_4 : Kc C62 4 = (.iload_n 1, 1, 0, 0, 0) := rfl
theorem k62_5 : Kc C62 5 = (.iload_n 2, 2, 0, 0, 0) := rfl
theorem k62_6 : Kc C62 6 = (.iastore, 0, 0, 0, 0) := rfl
theorem k62_7 : Kc C62 7 = (.aload_n 0, 0, 0, 0, 0) := rfl
theorem k62_8 : Kc C62 8 = (.getfield 15, 5, 1, 0, 0) := rfl
theorem k62_11 : Kc C62 11 = (.iload_n 1, 1, 0, 0, 0) := rfl
theorem k62_12 : Kc C62 12 = (.iload_n 3, 3, 0, 0, 0) := rfl
theorem k62_13 : Kc C62 13 = (.iastore, 0, 0, 0, 0) := rfl
theorem k62_14 : Kc C62 14 = (.iconst 0, 0, 0, 0, 0) := rfl
theorem k62_15 : Kc C62 15 = (.istore 4, 4, 0, 0, 0) := rfl
theorem k62_17 : Kc C62 17 = (.iload 4, 4, 0, 0, 0) := rfl
theorem k62_19 : Kc C62 19 = (.iload_n 3, 3, 0, 0, 0) := rfl
theorem k62_20 : Kc C62 20 = (.if_icmp .ge 19, 39, 0, 0, 0) := rfl
theorem k62_23 : Kc C62 23 = (.aload_n 0, 0, 0, 0, 0) := rfl
theorem k62_24 : Kc C62 24 = (.getfield 20, 5, 2, 0, 0) := rfl
theorem k62_27 : Kc C62 27 = (.iload_n 1, 1, 0, 0, 0) := rfl
theorem k62_28 : Kc C62 28 = (.aaload, 0, 0, 0, 0) := rfl
theorem k62_29 : Kc C62 29 = (.iload 4, 4, 0, 0, 0) := rfl
theorem k62_31 : Kc C62 31 = (.iconst 0, 0, 0, 0, 0) := rfl
theorem k62_32 : Kc C62 32 = (.iastore, 0, 0, 0, 0) := rfl
theorem k62_33 : Kc C62 33 = (.iinc 4 1, 4, 0, 0, 1) := rfl
theorem k62_36 : Kc C62 36 = (.goto (-19), 17, 0, 0, 0) := rfl
theorem k62_39 : Kc C62 39 = (.return_, 0, 0, 0, 0) := rfl
theorem ev62 (d : Nat) (x0 : Nat) (x1 : Int32) (x2 : Int32) (x3 : Int32) (h : Hp) : EvM (d + 1) 62 [.ref x0, .int x1, .int x2, .int x3] h = EvI (EvM d) C62 0 0 [.ref x0, .int x1, .int x2, .int x3, jk] [] h := rfl
theorem k63_0 : Kc C63 0 = (.aload_n 0, 0, 0, 0, 0) := rfl
theorem k63_1 : Kc C63 1 = (.getfield 11, 5, 0, 0, 0) := rfl
theorem k63_4 : Kc C63 4 = (.iload_n 1, 1, 0, 0, 0) := rfl
theorem k63_5 : Kc C63 5 = (.iconst (-1), 0, 0, 0, (-1)) := rfl
theorem k63_6 : Kc C63 6 = (.iastore, 0, 0, 0, 0) := rfl
theorem k63_7 : Kc C63 7 = (.aload_n 0, 0, 0, 0, 0) := rfl
theorem k63_8 : Kc C63 8 = (.getfield 15, 5, 1, 0, 0) := rfl
theorem k63_11 : Kc C63 11 = (.iload_n 1, 1, 0, 0, 0) := rfl
theorem k63_12 : Kc C63 12 = (.iaload, 0, 0, 0, 0) := rfl
theorem k63_13 : Kc C63 13 = (.ireturn, 0, 0, 0, 0) := rfl
theorem ev63 (d : Nat) (x0 : Nat) (x1 : Int32) (h : Hp) : EvM (d + 1) 63 [.ref x0, .int x1] h = EvI (EvM d) C63 1 0 [.ref x0, .int x1] [] h := rfl
theorem k64_0 : Kc C64 0 = (.iload_n 3, 3, 0, 0, 0) := rfl
theorem k64_1 : Kc C64 1 = (.istore 4, 4, 0, 0, 0) := rfl
theorem k64_3 : Kc C64 3 = (.aload_n 0, 0, 0, 0, 0) := rfl
theorem k64_4 : Kc C64 4 = (.getfield 11, 5, 0, 0, 0) := rfl
theorem k64_7 : Kc C64 7 = (.iload_n 1, 1, 0, 0, 0) := rfl
theorem k64_8 : Kc C64 8 = (.iaload, 0, 0, 0, 0) := rfl
theorem k64_9 : Kc C64 9 = (.ifCond .ne 10, 19, 0, 0, 0) := rfl
theorem k64_12 : Kc C64 12 = (.iload_n 3, 3, 0, 0, 0) := rfl
theorem k64_13 : Kc C64 13 = (.i2b, 0, 0, 0, 0) := rfl
theorem k64_14 : Kc C64 14 = (.istore 4, 4, 0, 0, 0) := rfl
theorem k64_16 : Kc C64 16 = (.goto 17, 33, 0, 0, 0) := rfl
theorem k64_19 : Kc C64 19 = (.aload_n 0, 0, 0, 0, 0) := rfl
theorem k64_20 : Kc C64 20 = (.getfield 11, 5, 0, 0, 0) := rfl
theorem k64_23 : Kc C64 23 = (.iload_n 1, 1, 0, 0, 0) := rfl
theorem k64_24 : Kc C64 24 = (.iaload, 0, 0, 0, 0) := rfl
theorem k64_25 : Kc C64 25 = (.iconst 1, 0, 0, 0, 1) := rfl
theorem k64_26 : Kc C64 26 = (.if_icmp .ne 7, 33, 0, 0, 0) := rfl
theorem k64_29 : Kc C64 29 = (.iload_n 3, 3, 0, 0, 0) := rfl
theorem k64_30 : Kc C64 30 = (.i2s, 0, 0, 0, 0) := rfl
theorem k64_31 : Kc C64 31 = (.istore 4, 4, 0, 0, 0) := rfl
theorem k64_33 : Kc C64 33 = (.aload_n 0, 0, 0, 0, 0) := rfl
theorem k64_34 : Kc C64 34 = (.getfield 20, 5, 2, 0, 0) := rfl
theorem k64_37 : Kc C64 37 = (.iload_n 1, 1, 0, 0, 0) := rfl
theorem k64_38 : Kc C64 38 = (.aaload, 0, 0, 0, 0) := rfl
theorem k64_39 : Kc C64 39 = (.iload_n 2, 2, 0, 0, 0) := rfl
theorem k64_40 : Kc C64 40 = (.iload 4, 4, 0, 0, 0) := rfl
theorem k64_42 : Kc C64 42 = (.iastore, 0, 0, 0, 0) := rfl
theorem k64_43 : Kc C64 43 = (.iload 4, 4, 0, 0, 0) := rfl
theorem k64_45 : Kc C64 45 = (.ireturn, 0, 0, 0, 0) := rfl
theorem ev64 (d : Nat) (x0 : Nat) (x1 : Int32) (x2 : Int32) (x3 : Int32) (h : Hp) : EvM (d + 1) 64 [.ref x0, .int x1, .int x2, .int x3] h = EvI (EvM d) C64 1 0 [.ref x0, .int x1, .int x2, .int x3, jk] [] h := rfl
theorem k65_0 : Kc C65 0 = (.aload_n 0, 0, 0, 0, 0) := rfl
theorem k65_1 : Kc C65 1 = (.iload_n 1, 1, 0, 0, 0) := rfl
theorem k65_2 : Kc C65 2 = (.invokevirtual 23, 61, 1, 17, 0) := rfl
theorem k65_5 : Kc C65 5 = (.ifCond .eq 5, 10, 0, 0, 0) := rfl
theorem k65_8 : Kc C65 8 = (.iconst 1, 0, 0, 0, 1) := rfl
theorem k65_9 : Kc C65 9 = (.ireturn, 0, 0, 0, 0) := rfl
theorem k65_10 : Kc C65 10 = (.iload_n 2, 2, 0, 0, 0) := rfl
theorem k65_11 : Kc C65 11 = (.ifCond .lt 19, 30, 0, 0, 0) := rfl
theorem k65_14 : Kc C65 14 = (.iload_n 3, 3, 0, 0, 0) := rfl
theorem k65_15 : Kc C65 15 = (.ifCond .lt 15, 30, 0, 0, 0) := rfl
theorem k65_18 : Kc C65 18 = (.iload_n 2, 2, 0, 0, 0) := rfl
theorem k65_19 : Kc C65 19 = (.aload_n 0, 0, 0, 0, 0) := rfl
theorem k65_20 : Kc C65 20 = (.getfield 15, 5, 1, 0, 0) := rfl
theorem k65_23 : Kc C65 23 = (.iload_n 1, 1, 0, 0, 0) := rfl
theorem k65_24 : Kc C65 24 = (.iaload, 0, 0, 0, 0) := rfl
theorem k65_25 : Kc C65 25 = (.iload_n 3, 3, 0, 0, 0) := rfl
theorem k65_26 : Kc C65 26 = (.isub, 0, 0, 0, 0) := rfl
theorem k65_27 : Kc C65 27 = (.if_icmp .le 7, 34, 0, 0, 0) := rfl
theorem k65_30 : Kc C65 30 = (.iconst 2, 0, 0, 0, 2) := rfl
theorem k65_31 : Kc C65 31 = (.goto 4, 35, 0, 0, 0) := rfl
theorem k65_34 : Kc C65 34 = (.iconst 0, 0, 0, 0, 0) := rfl
theorem k65_35 : Kc C65 35 = (.ireturn, 0, 0, 0, 0) := rfl
theorem ev65 (d : Nat) (x0 : Nat) (x1 : Int32) (x2 : Int32) (x3 : Int32) (h : Hp) : EvM (d + 1) 65 [.ref x0, .int x1, .int x2, .int x3] h = EvI (EvM d) C65 1 0 [.ref x0, .int x1, .int x2, .int x3] [] h := rfl
theorem k66_0 : Kc C66 0 = (.aload_n 0, 0, 0, 0, 0) := rfl
theorem k66_1 : Kc C66 1 = (.getfield 20, 5, 2, 0, 0) := rfl
theorem k66_4 : Kc C66 4 = (.iload_n 1, 1, 0, 0, 0) := rfl
theorem k66_5 : Kc C66 5 = (.aaload, 0, 0, 0, 0) := rfl
theorem k66_6 : Kc C66 6 = (.iload_n 2, 2, 0, 0, 0) := rfl
theorem k66_7 : Kc C66 7 = (.aload 4, 4, 0, 0, 0) := rfl
theorem k66_9 : Kc C66 9 = (.iconst 0, 0, 0, 0, 0) := rfl
theorem k66_10 : Kc C66 10 = (.iload_n 3, 3, 0, 0, 0) := rfl
theorem k66_11 : Kc C66 11 = (.invokestatic 27, 1001, 5, 0, 0) := rfl
theorem k66_14 : Kc C66 14 = (.return_, 0, 0, 0, 0) := rfl
theorem ev66 (d : Nat) (x0 : Nat) (x1 : Int32) (x2 : Int32) (x3 : Int32) (x4 : Nat) (h : Hp) : EvM (d + 1) 66 [.ref x0, .int x1, .int x2, .int x3, .ref x4] h = EvI (EvM d) C66 0 0 [.ref x0, .int x1, .int x2, .int x3, .ref x4] [] h := rfl
theorem k67_0 : Kc C67 0 = (.iconst 0, 0, 0, 0, 0) := rfl
theorem k67_1 : Kc C67 1 = (.istore_n 1, 1, 0, 0, 0) := rfl
theorem k67_2 : Kc C67 2 = (.iconst 0, 0, 0, 0, 0) := rfl
theorem k67_3 : Kc C67 3 = (.istore_n 2, 2, 0, 0, 0) := rfl
theorem k67_4 : Kc C67 4 = (.iload_n 2, 2, 0, 0, 0) := rfl
theorem k67_5 : Kc C67 5 = (.bipush 8, 0, 0, 0, 8) := rfl
theorem k67_7 : Kc C67 7 = (.if_icmp .ge 25, 32, 0, 0, 0) := rfl
theorem k67_10 : Kc C67 10 = (.iload_n 1, 1, 0, 0, 0) := rfl
theorem k67_11 : Kc C67 11 = (.aload_n 0, 0, 0, 0, 0) := rfl
theorem k67_12 : Kc C67 12 = (.iload_n 2, 2, 0, 0, 0) := rfl
theorem k67_13 : Kc C67 13 = (.invokevirtual 23, 61, 1, 17, 0) := rfl
theorem k67_16 : Kc C67 16 = (.ifCond .eq 7, 23, 0, 0, 0) := rfl
theorem k67_19 : Kc C67 19 = (.iconst 0, 0, 0, 0, 0) := rfl
theorem k67_20 : Kc C67 20 = (.goto 4, 24, 0, 0, 0) := rfl
theorem k67_23 : Kc C67 23 = (.iconst 1, 0, 0, 0, 1) := rfl
theorem k67_24 : Kc C67 24 = (.iadd, 0, 0, 0, 0) := rfl
theorem k67_25 : Kc C67 25 = (.istore_n 1, 1, 0, 0, 0) := rfl
theorem k67_26 : Kc C67 26 = (.iinc 2 1, 2, 0, 0, 1) := rfl
theorem k67_29 : Kc C67 29 = (.goto (-25), 4, 0, 0, 0) := rfl
theorem k67_32 : Kc C67 32 = (.iload_n 1, 1, 0, 0, 0) := rfl
theorem k67_33 : Kc C67 33 = (.ireturn, 0, 0, 0, 0) := rfl
theorem ev67 (d : Nat) (x0 : Nat) (h : Hp) : EvM (d + 1) 67 [.ref x0] h = EvI (EvM d) C67 1 0 [.ref x0, jk, jk] [] h := rfl
theorem k68_0 : Kc C68 0 = (.aload_n 0, 0, 0, 0, 0) := rfl
theorem k68_1 : Kc C68 1 = (.invokespecial 5, 1002, 0, 0, 0) := rfl
theorem k68_4 : Kc C68 4 = (.aload_n 0, 0, 0, 0, 0) := rfl
theorem k68_5 : Kc C68 5 = (.iconst 0, 0, 0, 0, 0) := rfl
theorem k68_6 : Kc C68 6 = (.putfield 11, 6, 0, 0, 0) := rfl
theorem k68_9 : Kc C68 9 = (.aload_n 0, 0, 0, 0, 0) := rfl
theorem k68_10 : Kc C68 10 = (.ldc 15, 0, 0, 0, (-1000000)) := rfl
theorem k68_12 : Kc C68 12 = (.putfield 16, 6, 1, 0, 0) := rfl
theorem k68_15 : Kc C68 15 = (.aload_n 0, 0, 0, 0, 0) := rfl
theorem k68_16 : Kc C68 16 = (.sipush 256, 0, 0, 0, 256) := rfl
theorem k68_19 : Kc C68 19 = (.newarray .int, 0, 0, 0, 0) := rfl
theorem k68_21 : Kc C68 21 = (.putfield 19, 6, 2, 0, 0) := rfl
theorem k68_24 : Kc C68 24 = (.aload_n 0, 0, 0, 0, 0) := rfl
theorem k68_25 : Kc C68 25 = (.sipush 256, 0, 0, 0, 256) := rfl
theorem k68_28 : Kc C68 28 = (.newarray .int, 0, 0, 0, 0) := rfl
theorem k68_30 : Kc C68 30 = (.putfield 23, 6, 3, 0, 0) := rfl
theorem k68_33 : Kc C68 33 = (.aload_n 0, 0, 0, 0, 0) := rfl
theorem k68_34 : Kc C68 34 = (.sipush 256, 0, 0, 0, 256) := rfl
theorem k68_37 : Kc C68 37 = (.newarray .int, 0, 0, 0, 0) := rfl
theorem k68_39 : Kc C68 39 = (.putfield 26, 6, 4, 0, 0) := rfl
theorem k68_42 : Kc C68 42 = (.return_, 0, 0, 0, 0) := rfl
theorem ev68 (d : Nat) (x0 : Nat) (h : Hp) : EvM (d + 1) 68 [.ref x0] h = EvI (EvM d) C68 0 0 [.ref x0] [] h := rfl
theorem k69_0 : Kc C69 0 = (.iload_n 2, 2, 0, 0, 0) := rfl
theorem k69_1 : Kc C69 1 = (.bipush 8, 0, 0, 0, 8) := rfl
theorem k69_3 : Kc C69 3 = (.invokestatic 29, 1000, 2, 0, 0) := rfl
theorem k69_6 : Kc C69 6 = (.istore 4, 4, 0, 0, 0) := rfl
theorem k69_8 : Kc C69 8 = (.iload_n 2, 2, 0, 0, 0) := rfl
theorem k69_9 : Kc C69 9 = (.iload 4, 4, 0, 0, 0) := rfl
theorem k69_11 : Kc C69 11 = (.isub, 0, 0, 0, 0) := rfl
theorem k69_12 : Kc C69 12 = (.bipush 8, 0, 0, 0, 8) := rfl
theorem k69_14 : Kc C69 14 = (.invokestatic 29, 1000, 2, 0, 0) := rfl
theorem k69_17 : Kc C69 17 = (.istore 5, 5, 0, 0, 0) := rfl
theorem k69_19 : Kc C69 19 = (.aload_n 0, 0, 0, 0, 0) := rfl
theorem k69_20 : Kc C69 20 = (.aload_n 1, 1, 0, 0, 0) := rfl
theorem k69_21 : Kc C69 21 = (.iload 4, 4, 0, 0, 0) := rfl
theorem k69_23 : Kc C69 23 = (.invokevirtual 35, 70, 2, 18, 0) := rfl
theorem k69_26 : Kc C69 26 = (.aload_n 0, 0, 0, 0, 0) := rfl
theorem k69_27 : Kc C69 27 = (.aload_n 1, 1, 0, 0, 0) := rfl
theorem k69_28 : Kc C69 28 = (.iload 4, 4, 0, 0, 0) := rfl
theorem k69_30 : Kc C69 30 = (.iload 5, 5, 0, 0, 0) := rfl
theorem k69_32 : Kc C69 32 = (.invokevirtual 39, 72, 3, 18, 0) := rfl
theorem k69_35 : Kc C69 35 = (.aload_n 0, 0, 0, 0, 0) := rfl
theorem k69_36 : Kc C69 36 = (.iconst 0, 0, 0, 0, 0) := rfl
theorem k69_37 : Kc C69 37 = (.putfield 11, 6, 0, 0, 0) := rfl
theorem k69_40 : Kc C69 40 = (.aload_n 0, 0, 0, 0, 0) := rfl
theorem k69_41 : Kc C69 41 = (.ldc 15, 0, 0, 0, (-1000000)) := rfl
theorem k69_43 : Kc C69 43 = (.putfield 16, 6, 1, 0, 0) := rfl
theorem k69_46 : Kc C69 46 = (.iconst 0, 0, 0, 0, 0) := rfl
theorem k69_47 : Kc C69 47 = (.istore 6, 6, 0, 0, 0) := rfl
theorem k69_49 : Kc C69 49 = (.iload 6, 6, 0, 0, 0) := rfl
theorem k69_51 : Kc C69 51 = (.iconst 1, 0, 0, 0, 1) := rfl
theorem k69_52 : Kc C69 52 = (.iload 5, 5, 0, 0, 0) := rfl
theorem k69_54 : Kc C69 54 = (.ishl, 0, 0, 0, 0) := rfl
theorem k69_55 : Kc C69 55 = (.if_icmp .ge 31, 86, 0, 0, 0) := rfl
theorem k69_58 : Kc C69 58 = (.aload_n 0, 0, 0, 0, 0) := rfl
theorem k69_59 : Kc C69 59 = (.iload 6, 6, 0, 0, 0) := rfl
theorem k69_61 : Kc C69 61 = (.iload 4, 4, 0, 0, 0) := rfl
theorem k69_63 : Kc C69 63 = (.ishl, 0, 0, 0, 0) := rfl
theorem k69_64 : Kc C69 64 = (.iload_n 3, 3, 0, 0, 0) := rfl
theorem k69_65 : Kc C69 65 = (.aload_n 0, 0, 0, 0, 0) := rfl
theorem k69_66 : Kc C69 66 = (.getfield 26, 6, 4, 0, 0) := rfl
theorem k69_69 : Kc C69 69 = (.iload 6, 6, 0, 0, 0) := rfl
theorem k69_71 : Kc C69 71 = (.iaload, 0, 0, 0, 0) := rfl
theorem k69_72 : Kc C69 72 = (.isub, 0, 0, 0, 0) := rfl
theorem k69_73 : Kc C69 73 = (.iconst 1, 0, 0, 0, 1) := rfl
theorem k69_74 : Kc C69 74 = (.iload 4, 4, 0, 0, 0) := rfl
theorem k69_76 : Kc C69 76 = (.ishl, 0, 0, 0, 0) := rfl
theorem k69_77 : Kc C69 77 = (.invokevirtual 43, 73, 3, 18, 0) := rfl
theorem k69_80 : Kc C69 80 = (.iinc 6 1, 6, 0, 0, 1) := rfl
theorem k69_83 : Kc C69 83 = (.goto (-34), 49, 0, 0, 0) := rfl
theorem k69_86 : Kc C69 86 = (.return_, 0, 0, 0, 0) := rfl
theorem ev69 (d : Nat) (x0 : Nat) (x1 : Nat) (x2 : Int32) (x3 : Int32) (h : Hp) : EvM (d + 1) 69 [.ref x0, .ref x1, .int x2, .int x3] h = EvI (EvM d) C69 0 0 [.ref x0, .ref x1, .int x2, .int x3, jk, jk, jk] [] h := rfl
theorem k70_0 : Kc C70 0 = (.aload_n 0, 0, 0, 0, 0) := rfl
theorem k70_1 : Kc C70 1 = (.getfield 19, 6, 2, 0, 0) := rfl
theorem k70_4 : Kc C70 4 = (.iconst 0, 0, 0, 0, 0) := rfl
theorem k70_5 : Kc C70 5 = (.iconst 0, 0, 0, 0, 0) := rfl
theorem k70_6 : Kc C70 6 = (.iastore, 0, 0, 0, 0) := rfl
theorem k70_7 : Kc C70 7 = (.iconst 0, 0, 0, 0, 0) := rfl
theorem k70_8 : Kc C70 8 = (.istore_n 3, 3, 0, 0, 0) := rfl
theorem k70_9 : Kc C70 9 = (.iload_n 3, 3, 0, 0, 0) := rfl
theorem k70_10 : Kc C70 10 = (.iload_n 2, 2, 0, 0, 0) := rfl
theorem k70_11 : Kc C70 11 = (.if_icmp .ge 27, 38, 0, 0, 0) := rfl
theorem k70_14 : Kc C70 14 = (.aload_n 0, 0, 0, 0, 0) := rfl
theorem k70_15 : Kc C70 15 = (.aload_n 1, 1, 0, 0, 0) := rfl
theorem k70_16 : Kc C70 16 = (.iload_n 3, 3, 0, 0, 0) := rfl
theorem k70_17 : Kc C70 17 = (.iaload, 0, 0, 0, 0) := rfl
theorem k70_18 : Kc C70 18 = (.sipush 256, 0, 0, 0, 256) := rfl
theorem k70_21 : Kc C70 21 = (.imul, 0, 0, 0, 0) := rfl
theorem k70_22 : Kc C70 22 = (.iconst 1, 0, 0, 0, 1) := rfl
theorem k70_23 : Kc C70 23 = (.iload_n 3, 3, 0, 0, 0) := rfl
theorem k70_24 : Kc C70 24 = (.ishl, 0, 0, 0, 0) := rfl
theorem k70_25 : Kc C70 25 = (.iadd, 0, 0, 0, 0) := rfl
theorem k70_26 : Kc C70 26 = (.iconst 1, 0, 0, 0, 1) := rfl
theorem k70_27 : Kc C70 27 = (.iload_n 3, 3, 0, 0, 0) := rfl
theorem k70_28 : Kc C70 28 = (.ishl, 0, 0, 0, 0) := rfl
theorem k70_29 : Kc C70 29 = (.invokevirtual 47, 71, 2, 18, 0) := rfl
theorem k70_32 : Kc C70 32 = (.iinc 3 1, 3, 0, 0, 1) := rfl
theorem k70_35 : Kc C70 35 = (.goto (-26), 9, 0, 0, 0) := rfl
theorem k70_38 : Kc C70 38 = (.return_, 0, 0, 0, 0) := rfl
theorem ev70 (d : Nat) (x0 : Nat) (x1 : Nat) (x2 : Int32) (h : Hp) : EvM (d + 1) 70 [.ref x0, .ref x1, .int x2] h = EvI (EvM d) C70 0 0 [.ref x0, .ref x1, .int x2, jk] [] h := rfl
theorem k71_0 : Kc C71 0 = (.iconst 0, 0, 0, 0, 0) := rfl
theorem k71_1 : Kc C71 1 = (.istore_n 3, 3, 0, 0, 0) := rfl
theorem k71_2 : Kc C71 2 = (.iconst 0, 0, 0, 0, 0) := rfl
theorem k71_3 : Kc C71 3 = (.istore 4, 4, 0, 0, 0) := rfl
theorem k71_5 : Kc C71 5 = (.iconst 0, 0, 0, 0, 0) := rfl
theorem k71_6 : Kc C71 6 = (.istore 5, 5, 0, 0, 0) := rfl
theorem k71_8 : Kc C71 8 = (.iload 5, 5, 0, 0, 0) := rfl
theorem k71_10 : Kc C71 10 = (.iconst 2, 0, 0, 0, 2) := rfl
theorem k71_11 : Kc C71 11 = (.iload_n 2, 2, 0, 0, 0) := rfl
theorem k71_12 : Kc C71 12 = (.imul, 0, 0, 0, 0) := rfl
theorem k71_13 : Kc C71 13 = (.if_icmp .ge 76, 89, 0, 0, 0) := rfl
theorem k71_16 : Kc C71 16 = (.iload 4, 4, 0, 0, 0) := rfl
theorem k71_18 : Kc C71 18 = (.iload_n 2, 2, 0, 0, 0) := rfl
theorem k71_19 : Kc C71 19 = (.if_icmp .ge 26, 45, 0, 0, 0) := rfl
theorem k71_22 : Kc C71 22 = (.iload_n 3, 3, 0, 0, 0) := rfl
theorem k71_23 : Kc C71 23 = (.iload_n 2, 2, 0, 0, 0) := rfl
theorem k71_24 : Kc C71 24 = (.if_icmp .ge 40, 64, 0, 0, 0) := rfl
theorem k71_27 : Kc C71 27 = (.aload_n 0, 0, 0, 0, 0) := rfl
theorem k71_28 : Kc C71 28 = (.getfield 19, 6, 2, 0, 0) := rfl
theorem k71_31 : Kc C71 31 = (.iload_n 3, 3, 0, 0, 0) := rfl
theorem k71_32 : Kc C71 32 = (.iaload, 0, 0, 0, 0) := rfl
theorem k71_33 : Kc C71 33 = (.aload_n 0, 0, 0, 0, 0) := rfl
theorem k71_34 : Kc C71 34 = (.getfield 19, 6, 2, 0, 0) := rfl
theorem k71_37 : Kc C71 37 = (.iload 4, 4, 0, 0, 0) := rfl
theorem k71_39 : Kc C71 39 = (.iaload, 0, 0, 0, 0) := rfl
theorem k71_40 : Kc C71 40 = (.iload_n 1, 1, 0, 0, 0) := rfl
theorem k71_41 : Kc C71 41 = (.iadd, 0, 0, 0, 0) := rfl
theorem k71_42 : Kc C71 42 = (.if_icmp .ge 22, 64, 0, 0, 0) := rfl
theorem k71_45 : Kc C71 45 = (.aload_n 0, 0, 0, 0, 0) := rfl
theorem k71_46 : Kc C71 46 = (.getfield 23, 6, 3, 0, 0) := rfl
theorem k71_49 : Kc C71 49 = (.iload 5, 5, 0, 0, 0) := rfl
theorem k71_51 : Kc C71 51 = (.aload_n 0, 0, 0, 0, 0) := rfl
theorem k71_52 : Kc C71 52 = (.getfield 19, 6, 2, 0, 0) := rfl
theorem k71_55 : Kc C71 55 = (.iload_n 3, 3, 0, 0, 0) := rfl
theorem k71_56 : Kc C71 56 = (.iaload, 0, 0, 0, 0) := rfl
theorem k71_57 : Kc C71 57 = (.iastore, 0, 0, 0, 0) := rfl
theorem k71_58 : Kc C71 58 = (.iinc 3 1, 3, 0, 0, 1) := rfl
theorem k71_61 : Kc C71 61 = (.goto 22, 83, 0, 0, 0) := rfl
theorem k71_64 : Kc C71 64 = (.aload_n 0, 0, 0, 0, 0) := rfl
theorem k71_65 : Kc C71 65 = (.getfield 23, 6, 3, 0, 0) := rfl
theorem k71_68 : Kc C71 68 = (.iload 5, 5, 0, 0, 0) := rfl
theorem k71_70 : Kc C71 70 = (.aload_n 0, 0, 0, 0, 0) := rfl
theorem k71_71 : Kc C71 71 = (.getfield 19, 6, 2, 0, 0) := rfl
theorem k71_74 : Kc C71 74 = (.iload 4, 4, 0, 0, 0) := rfl
theorem k71_76 : Kc C71 76 = (.iaload, 0, 0, 0, 0) := rfl
theorem k71_77 : Kc C71 77 = (.iload_n 1, 1, 0, 0, 0) := rfl
theorem k71_78 : Kc C71 78 = (.iadd, 0, 0, 0, 0) := rfl
theorem k71_79 : Kc C71 79 = (.iastore, 0, 0, 0, 0) := rfl
theorem k71_80 : Kc C71 80 = (.iinc 4 1, 4, 0, 0, 1) := rfl
theorem k71_83 : Kc C71 83 = (.iinc 5 1, 5, 0, 0, 1) := rfl
theorem k71_86 : Kc C71 86 = (.goto (-78), 8, 0, 0, 0) := rfl
theorem k71_89 : Kc C71 89 = (.aload_n 0, 0, 0, 0, 0) := rfl
theorem k71_90 : Kc C71 90 = (.getfield 23, 6, 3, 0, 0) := rfl
theorem k71_93 : Kc C71 93 = (.iconst 0, 0, 0, 0, 0) := rfl
theorem k71_94 : Kc C71 94 = (.aload_n 0, 0, 0, 0, 0) := rfl
theorem k71_95 : Kc C71 95 = (.getfield 19, 6, 2, 0, 0) := rfl
theorem k71_98 : Kc C71 98 = (.iconst 0, 0, 0, 0, 0) := rfl
theorem k71_99 : Kc C71 99 = (.iconst 2, 0, 0, 0, 2) := rfl
theorem k71_100 : Kc C71 100 = (.iload_n 2, 2, 0, 0, 0) := rfl
theorem k71_101 : Kc C71 101 = (.imul, 0, 0, 0, 0) := rfl
theorem k71_102 : Kc C71 102 = (.invokestatic 51, 1001, 5, 0, 0) := rfl
theorem k71_105 : Kc C71 105 = (.return_, 0, 0, 0, 0) := rfl
theorem ev71 (d : Nat) (x0 : Nat) (x1 : Int32) (x2 : Int32) (h : Hp) : EvM (d + 1) 71 [.ref x0, .int x1, .int x2] h = EvI (EvM d) C71 0 0 [.ref x0, .int x1, .int x2, jk, jk, jk] [] h := rfl
theorem k72_0 : Kc C72 0 = (.aload_n 0, 0, 0, 0, 0) := rfl
theorem k72_1 : Kc C72 1 = (.getfield 26, 6, 4, 0, 0) := rfl
theorem k72_4 : Kc C72 4 = (.iconst 0, 0, 0, 0, 0) := rfl
theorem k72_5 : Kc C72 5 = (.iconst 0, 0, 0, 0, 0) := rfl
theorem k72_6 : Kc C72 6 = (.iastore, 0, 0, 0, 0) := rfl
theorem k72_7 : Kc C72 7 = (.iconst 0, 0, 0, 0, 0) := rfl
theorem k72_8 : Kc C72 8 = (.istore 4, 4, 0, 0, 0) := rfl
theorem k72_10 : Kc C72 10 = (.iload 4, 4, 0, 0, 0) := rfl
theorem k72_12 : Kc C72 12 = (.iload_n 3, 3, 0, 0, 0) := rfl
theorem k72_13 : Kc C72 13 = (.if_icmp .ge 53, 66, 0, 0, 0) := rfl
theorem k72_16 : Kc C72 16 = (.iconst 0, 0, 0, 0, 0) := rfl
theorem k72_17 : Kc C72 17 = (.istore 5, 5, 0, 0, 0) := rfl
theorem k72_19 : Kc C72 19 = (.iload 5, 5, 0, 0, 0) := rfl
theorem k72_21 : Kc C72 21 = (.iconst 1, 0, 0, 0, 1) := rfl
theorem k72_22 : Kc C72 22 = (.iload 4, 4, 0, 0, 0) := rfl
theorem k72_24 : Kc C72 24 = (.ishl, 0, 0, 0, 0) := rfl
theorem k72_25 : Kc C72 25 = (.if_icmp .ge 35, 60, 0, 0, 0) := rfl
theorem k72_28 : Kc C72 28 = (.aload_n 0, 0, 0, 0, 0) := rfl
theorem k72_29 : Kc C72 29 = (.getfield 26, 6, 4, 0, 0) := rfl
theorem k72_32 : Kc C72 32 = (.iload 5, 5, 0, 0, 0) := rfl
theorem k72_34 : Kc C72 34 = (.iconst 1, 0, 0, 0, 1) := rfl
theorem k72_35 : Kc C72 35 = (.iload 4, 4, 0, 0, 0) := rfl
theorem k72_37 : Kc C72 37 = (.ishl, 0, 0, 0, 0) := rfl
theorem k72_38 : Kc C72 38 = (.ior, 0, 0, 0, 0) := rfl
theorem k72_39 : Kc C72 39 = (.aload_n 0, 0, 0, 0, 0) := rfl
theorem k72_40 : Kc C72 40 = (.getfield 26, 6, 4, 0, 0) := rfl
theorem k72_43 : Kc C72 43 = (.iload 5, 5, 0, 0, 0) := rfl
theorem k72_45 : Kc C72 45 = (.iaload, 0, 0, 0, 0) := rfl
theorem k72_46 : Kc C72 46 = (.aload_n 1, 1, 0, 0, 0) := rfl
theorem k72_47 : Kc C72 47 = (.iload_n 2, 2, 0, 0, 0) := rfl
theorem k72_48 : Kc C72 48 = (.iload 4, 4, 0, 0, 0) := rfl
theorem k72_50 : Kc C72 50 = (.iadd, 0, 0, 0, 0) := rfl
theorem k72_51 : Kc C72 51 = (.iaload, 0, 0, 0, 0) := rfl
theorem k72_52 : Kc C72 52 = (.iadd, 0, 0, 0, 0) := rfl
theorem k72_53 : Kc C72 53 = (.iastore, 0, 0, 0, 0) := rfl
theorem k72_54 : Kc C72 54 = (.iinc 5 1, 5, 0, 0, 1) := rfl
theorem k72_57 : Kc C72 57 = (.goto (-38), 19, 0, 0, 0) := rfl
theorem k72_60 : Kc C72 60 = (.iinc 4 1, 4, 0, 0, 1) := rfl
theorem k72_63 : Kc C72 63 = (.goto (-53), 10, 0, 0, 0) := rfl
theorem k72_66 : Kc C72 66 = (.return_, 0, 0, 0, 0) := rfl
theorem ev72 (d : Nat) (x0 : Nat) (x1 : Nat) (x2 : Int32) (x3 : Int32) (h : Hp) : EvM (d + 1) 72 [.ref x0, .ref x1, .int x2, .int x3] h = EvI (EvM d) C72 0 0 [.ref x0, .ref x1, .int x2, .int x3, jk, jk] [] h := rfl
theorem k73_0 : Kc C73 0 = (.iload_n 2, 2, 0, 0, 0) := rfl
theorem k73_1 : Kc C73 1 = (.ifCond .ge 4, 5, 0, 0, 0) := rfl
theorem k73_4 : Kc C73 4 = (.return_, 0, 0, 0, 0) := rfl
theorem k73_5 : Kc C73 5 = (.aload_n 0, 0, 0, 0, 0) := rfl
theorem k73_6 : Kc C73 6 = (.iload_n 2, 2, 0, 0, 0) := rfl
theorem k73_7 : Kc C73 7 = (.iload_n 3, 3, 0, 0, 0) := rfl
theorem k73_8 : Kc C73 8 = (.invokevirtual 57, 74, 2, 19, 0) := rfl
theorem k73_11 : Kc C73 11 = (.istore 4, 4, 0, 0, 0) := rfl
theorem k73_13 : Kc C73 13 = (.aload_n 0, 0, 0, 0, 0) := rfl
theorem k73_14 : Kc C73 14 = (.iload_n 2, 2, 0, 0, 0) := rfl
theorem k73_15 : Kc C73 15 = (.iconst 1, 0, 0, 0, 1) := rfl
theorem k73_16 : Kc C73 16 = (.iadd, 0, 0, 0, 0) := rfl
theorem k73_17 : Kc C73 17 = (.iload_n 3, 3, 0, 0, 0) := rfl
theorem k73_18 : Kc C73 18 = (.invokevirtual 57, 74, 2, 19, 0) := rfl
theorem k73_21 : Kc C73 21 = (.iload 4, 4, 0, 0, 0) := rfl
theorem k73_23 : Kc C73 23 = (.isub, 0, 0, 0, 0) := rfl
theorem k73_24 : Kc C73 24 = (.istore 5, 5, 0, 0, 0) := rfl
theorem k73_26 : Kc C73 26 = (.aload_n 0, 0, 0, 0, 0) := rfl
theorem k73_27 : Kc C73 27 = (.getfield 16, 6, 1, 0, 0) := rfl
theorem k73_30 : Kc C73 30 = (.ldc 15, 0, 0, 0, (-1000000)) := rfl
theorem k73_32 : Kc C73 32 = (.if_icmp .ne 25, 57, 0, 0, 0) := rfl
theorem k73_35 : Kc C73 35 = (.iload 5, 5, 0, 0, 0) := rfl
theorem k73_37 : Kc C73 37 = (.ifCond .le 20, 57, 0, 0, 0) := rfl
theorem k73_40 : Kc C73 40 = (.aload_n 0, 0, 0, 0, 0) := rfl
theorem k73_41 : Kc C73 41 = (.iload_n 1, 1, 0, 0, 0) := rfl
theorem k73_42 : Kc C73 42 = (.aload_n 0, 0, 0, 0, 0) := rfl
theorem k73_43 : Kc C73 43 = (.getfield 19, 6, 2, 0, 0) := rfl
theorem k73_46 : Kc C73 46 = (.iload 4, 4, 0, 0, 0) := rfl
theorem k73_48 : Kc C73 48 = (.iaload, 0, 0, 0, 0) := rfl
theorem k73_49 : Kc C73 49 = (.sipush 256, 0, 0, 0, 256) := rfl
theorem k73_52 : Kc C73 52 = (.irem, 0, 0, 0, 0) := rfl
theorem k73_53 : Kc C73 53 = (.ior, 0, 0, 0, 0) := rfl
theorem k73_54 : Kc C73 54 = (.putfield 16, 6, 1, 0, 0) := rfl
theorem k73_57 : Kc C73 57 = (.aload_n 0, 0, 0, 0, 0) := rfl
theorem k73_58 : Kc C73 58 = (.dup, 0, 0, 0, 0) := rfl
theorem k73_59 : Kc C73 59 = (.getfield 11, 6, 0, 0, 0) := rfl
theorem k73_62 : Kc C73 62 = (.iload 5, 5, 0, 0, 0) := rfl
theorem k73_64 : Kc C73 64 = (.iadd, 0, 0, 0, 0) := rfl
theorem k73_65 : Kc C73 65 = (.putfield 11, 6, 0, 0, 0) := rfl
theorem k73_68 : Kc C73 68 = (.return_, 0, 0, 0, 0) := rfl
theorem ev73 (d : Nat) (x0 : Nat) (x1 : Int32) (x2 : Int32) (x3 : Int32) (h : Hp) : EvM (d + 1) 73 [.ref x0, .int x1, .int x2, .int x3] h = EvI (EvM d) C73 0 0 [.ref x0, .int x1, .int x2, .int x3, jk, jk] [] h := rfl
theorem k74_0 : Kc C74 0 = (.iconst 0, 0, 0, 0, 0) := rfl
theorem k74_1 : Kc C74 1 = (.istore_n 3, 3, 0, 0, 0) := rfl
theorem k74_2 : Kc C74 2 = (.iload_n 2, 2, 0, 0, 0) := rfl
theorem k74_3 : Kc C74 3 = (.istore 4, 4, 0, 0, 0) := rfl
theorem k74_5 : Kc C74 5 = (.iconst 0, 0, 0, 0, 0) := rfl
theorem k74_6 : Kc C74 6 = (.istore 5, 5, 0, 0, 0) := rfl
theorem k74_8 : Kc C74 8 = (.iload 5, 5, 0, 0, 0) := rfl
theorem k74_10 : Kc C74 10 = (.bipush 8, 0, 0, 0, 8) := rfl
theorem k74_12 : Kc C74 12 = (.if_icmp .gt 50, 62, 0, 0, 0) := rfl
theorem k74_15 : Kc C74 15 = (.iload_n 3, 3, 0, 0, 0) := rfl
theorem k74_16 : Kc C74 16 = (.iload 4, 4, 0, 0, 0) := rfl
theorem k74_18 : Kc C74 18 = (.if_icmp .ge 44, 62, 0, 0, 0) := rfl
theorem k74_21 : Kc C74 21 = (.iload_n 3, 3, 0, 0, 0) := rfl
theorem k74_22 : Kc C74 22 = (.iload 4, 4, 0, 0, 0) := rfl
theorem k74_24 : Kc C74 24 = (.iadd, 0, 0, 0, 0) := rfl
theorem k74_25 : Kc C74 25 = (.iconst 2, 0, 0, 0, 2) := rfl
theorem k74_26 : Kc C74 26 = (.idiv, 0, 0, 0, 0) := rfl
theorem k74_27 : Kc C74 27 = (.istore 6, 6, 0, 0, 0) := rfl
theorem k74_29 : Kc C74 29 = (.aload_n 0, 0, 0, 0, 0) := rfl
theorem k74_30 : Kc C74 30 = (.getfield 19, 6, 2, 0, 0) := rfl
theorem k74_33 : Kc C74 33 = (.iload 6, 6, 0, 0, 0) := rfl
theorem k74_35 : Kc C74 35 = (.iaload, 0, 0, 0, 0) := rfl
theorem k74_36 : Kc C74 36 = (.iload_n 1, 1, 0, 0, 0) := rfl
theorem k74_37 : Kc C74 37 = (.sipush 256, 0, 0, 0, 256) := rfl
theorem k74_40 : Kc C74 40 = (.imul, 0, 0, 0, 0) := rfl
theorem k74_41 : Kc C74 41 = (.if_icmp .ge 11, 52, 0, 0, 0) := rfl
theorem k74_44 : Kc C74 44 = (.iload 6, 6, 0, 0, 0) := rfl
theorem k74_46 : Kc C74 46 = (.iconst 1, 0, 0, 0, 1) := rfl
theorem k74_47 : Kc C74 47 = (.iadd, 0, 0, 0, 0) := rfl
theorem k74_48 : Kc C74 48 = (.istore_n 3, 3, 0, 0, 0) := rfl
theorem k74_49 : Kc C74 49 = (.goto 7, 56, 0, 0, 0) := rfl
theorem k74_52 : Kc C74 52 = (.iload 6, 6, 0, 0, 0) := rfl
theorem k74_54 : Kc C74 54 = (.istore 4, 4, 0, 0, 0) := rfl
theorem k74_56 : Kc C74 56 = (.iinc 5 1, 5, 0, 0, 1) := rfl
theorem k74_59 : Kc C74 59 = (.goto (-51), 8, 0, 0, 0) := rfl
theorem k74_62 : Kc C74 62 = (.iload_n 3, 3, 0, 0, 0) := rfl
theorem k74_63 : Kc C74 63 = (.ireturn, 0, 0, 0, 0) := rfl
theorem ev74 (d : Nat) (x0 : Nat) (x1 : Int32) (x2 : Int32) (h : Hp) : EvM (d + 1) 74 [.ref x0, .int x1, .int x2] h = EvI (EvM d) C74 1 0 [.ref x0, .int x1, .int x2, jk, jk, jk, jk] [] h := rfl
theorem k75_0 : Kc C75 0 = (.aload_n 0, 0, 0, 0, 0) := rfl
theorem k75_1 : Kc C75 1 = (.invokespecial 3, 1002, 0, 0, 0) := rfl
theorem k75_4 : Kc C75 4 = (.aload_n 0, 0, 0, 0, 0) := rfl
theorem k75_5 : Kc C75 5 = (.bipush 120, 0, 0, 0, 120) := rfl
theorem k75_7 : Kc C75 7 = (.newarray .int, 0, 0, 0, 0) := rfl
theorem k75_9 : Kc C75 9 = (.putfield 9, 7, 0, 0, 0) := rfl
theorem k75_12 : Kc C75 12 = (.aload_n 0, 0, 0, 0, 0) := rfl
theorem k75_13 : Kc C75 13 = (.iconst 0, 0, 0, 0, 0) := rfl
theorem k75_14 : Kc C75 14 = (.putfield 15, 7, 1, 0, 0) := rfl
theorem k75_17 : Kc C75 17 = (.aload_n 0, 0, 0, 0, 0) := rfl
theorem k75_18 : Kc C75 18 = (.iconst 0, 0, 0, 0, 0) := rfl
theorem k75_19 : Kc C75 19 = (.putfield 19, 7, 2, 0, 0) := rfl
theorem k75_22 : Kc C75 22 = (.aload_n 0, 0, 0, 0, 0) := rfl
theorem k75_23 : Kc C75 23 = (.iconst 0, 0, 0, 0, 0) := rfl
theorem k75_24 : Kc C75 24 = (.putfield 22, 7, 3, 0, 0) := rfl
theorem k75_27 : Kc C75 27 = (.aload_n 0, 0, 0, 0, 0) := rfl
theorem k75_28 : Kc C75 28 = (.iconst 0, 0, 0, 0, 0) := rfl
theorem k75_29 : Kc C75 29 = (.putfield 25, 7, 4, 0, 0) := rfl
theorem k75_32 : Kc C75 32 = (.aload_n 0, 0, 0, 0, 0) := rfl
theorem k75_33 : Kc C75 33 = (.iconst 0, 0, 0, 0, 0) := rfl
theorem k75_34 : Kc C75 34 = (.putfield 28, 7, 5, 0, 0) := rfl
theorem k75_37 : Kc C75 37 = (.return_, 0, 0, 0, 0) := rfl
theorem ev75 (d : Nat) (x0 : Nat) (h : Hp) : EvM (d + 1) 75 [.ref x0] h = EvI (EvM d) C75 0 0 [.ref x0] [] h := rfl
theorem k76_0 : Kc C76 0 = (.aload_n 0, 0, 0, 0, 0) := rfl
theorem k76_1 : Kc C76 1 = (.getfield 9, 7, 0, 0, 0) := rfl
theorem k76_4 : Kc C76 4 = (.aload_n 0, 0, 0, 0, 0) := rfl
theorem k76_5 : Kc C76 5 = (.getfield 15, 7, 1, 0, 0) := rfl
theorem k76_8 : Kc C76 8 = (.iload_n 1, 1, 0, 0, 0) := rfl
theorem k76_9 : Kc C76 9 = (.iastore, 0, 0, 0, 0) := rfl
theorem k76_10 : Kc C76 10 = (.aload_n 0, 0, 0, 0, 0) := rfl
theorem k76_11 : Kc C76 11 = (.dup, 0, 0, 0, 0) := rfl
theorem k76_12 : Kc C76 12 = (.getfield 15, 7, 1, 0, 0) := rfl
theorem k76_15 : Kc C76 15 = (.iconst 1, 0, 0, 0, 1) := rfl
theorem k76_16 : Kc C76 16 = (.iadd, 0, 0, 0, 0) := rfl
theorem k76_17 : Kc C76 17 = (.putfield 15, 7, 1, 0, 0) := rfl
theorem k76_20 : Kc C76 20 = (.aload_n 0, 0, 0, 0, 0) := rfl
theorem k76_21 : Kc C76 21 = (.getfield 15, 7, 1, 0, 0) := rfl
theorem k76_24 : Kc C76 24 = (.ireturn, 0, 0, 0, 0) := rfl
theorem ev76 (d : Nat) (x0 : Nat) (x1 : Int32) (h : Hp) : EvM (d + 1) 76 [.ref x0, .int x1] h = EvI (EvM d) C76 1 0 [.ref x0, .int x1] [] h := rfl
theorem k77_0 : Kc C77 0 = (.aload_n 0, 0, 0, 0, 0) := rfl
theorem k77_1 : Kc C77 1 = (.iconst 0, 0, 0, 0, 0) := rfl
theorem k77_2 : Kc C77 2 = (.putfield 25, 7, 4, 0, 0) := rfl
theorem k77_5 : Kc C77 5 = (.aload_n 1, 1, 0, 0, 0) := rfl
theorem k77_6 : Kc C77 6 = (.invokevirtual 31, 18, 0, 6, 0) := rfl
theorem k77_9 : Kc C77 9 = (.aload_n 0, 0, 0, 0, 0) := rfl
theorem k77_10 : Kc C77 10 = (.aload_n 1, 1, 0, 0, 0) := rfl
theorem k77_11 : Kc C77 11 = (.invokevirtual 36, 78, 1, 23, 0) := rfl
theorem k77_14 : Kc C77 14 = (.ifCond .ne 5, 19, 0, 0, 0) := rfl
theorem k77_17 : Kc C77 17 = (.iconst 0, 0, 0, 0, 0) := rfl
theorem k77_18 : Kc C77 18 = (.ireturn, 0, 0, 0, 0) := rfl
theorem k77_19 : Kc C77 19 = (.iconst 0, 0, 0, 0, 0) := rfl
theorem k77_20 : Kc C77 20 = (.istore_n 2, 2, 0, 0, 0) := rfl
theorem k77_21 : Kc C77 21 = (.iload_n 2, 2, 0, 0, 0) := rfl
theorem k77_22 : Kc C77 22 = (.bipush 6, 0, 0, 0, 6) := rfl
theorem k77_24 : Kc C77 24 = (.if_icmp .gt 30, 54, 0, 0, 0) := rfl
theorem k77_27 : Kc C77 27 = (.aload_n 0, 0, 0, 0, 0) := rfl
theorem k77_28 : Kc C77 28 = (.getfield 25, 7, 4, 0, 0) := rfl
theorem k77_31 : Kc C77 31 = (.aload_n 0, 0, 0, 0, 0) := rfl
theorem k77_32 : Kc C77 32 = (.getfield 15, 7, 1, 0, 0) := rfl
theorem k77_35 : Kc C77 35 = (.if_icmp .ge 19, 54, 0, 0, 0) := rfl
theorem k77_38 : Kc C77 38 = (.aload_n 0, 0, 0, 0, 0) := rfl
theorem k77_39 : Kc C77 39 = (.aload_n 1, 1, 0, 0, 0) := rfl
theorem k77_40 : Kc C77 40 = (.invokevirtual 40, 79, 1, 23, 0) := rfl
theorem k77_43 : Kc C77 43 = (.ifCond .ne 5, 48, 0, 0, 0) := rfl
theorem k77_46 : Kc C77 46 = (.iconst 0, 0, 0, 0, 0) := rfl
theorem k77_47 : Kc C77 47 = (.ireturn, 0, 0, 0, 0) := rfl
theorem k77_48 : Kc C77 48 = (.iinc 2 1, 2, 0, 0, 1) := rfl
theorem k77_51 : Kc C77 51 = (.goto (-30), 21, 0, 0, 0) := rfl
theorem k77_54 : Kc C77 54 = (.iconst 1, 0, 0, 0, 1) := rfl
theorem k77_55 : Kc C77 55 = (.ireturn, 0, 0, 0, 0) := rfl
theorem ev77 (d : Nat) (x0 : Nat) (x1 : Nat) (h : Hp) : EvM (d + 1) 77 [.ref x0, .ref x1] h = EvI (EvM d) C77 2 0 [.ref x0, .ref x1, jk] [] h := rfl
theorem k78_0 : Kc C78 0 = (.aload_n 0, 0, 0, 0, 0) := rfl
theorem k78_1 : Kc C78 1 = (.bipush 121, 0, 0, 0, 121) := rfl
theorem k78_3 : Kc C78 3 = (.invokevirtual 43, 82, 1, 23, 0) := rfl
theorem k78_6 : Kc C78 6 = (.ifCond .eq 13, 19, 0, 0, 0) := rfl
theorem k78_9 : Kc C78 9 = (.aload_n 0, 0, 0, 0, 0) := rfl
theorem k78_10 : Kc C78 10 = (.iconst 1, 0, 0, 0, 1) := rfl
theorem k78_11 : Kc C78 11 = (.bipush 24, 0, 0, 0, 24) := rfl
theorem k78_13 : Kc C78 13 = (.invokevirtual 47, 83, 2, 23, 0) := rfl
theorem k78_16 : Kc C78 16 = (.ifCond .ne 5, 21, 0, 0, 0) := rfl
theorem k78_19 : Kc C78 19 = (.iconst 0, 0, 0, 0, 0) := rfl
theorem k78_20 : Kc C78 20 = (.ireturn, 0, 0, 0, 0) := rfl
theorem k78_21 : Kc C78 21 = (.aload_n 1, 1, 0, 0, 0) := rfl
theorem k78_22 : Kc C78 22 = (.aload_n 0, 0, 0, 0, 0) := rfl
theorem k78_23 : Kc C78 23 = (.getfield 28, 7, 5, 0, 0) := rfl
theorem k78_26 : Kc C78 26 = (.putfield 51, 2, 0, 0, 0) := rfl
theorem k78_29 : Kc C78 29 = (.aload_n 0, 0, 0, 0, 0) := rfl
theorem k78_30 : Kc C78 30 = (.bipush 44, 0, 0, 0, 44) := rfl
theorem k78_32 : Kc C78 32 = (.invokevirtual 43, 82, 1, 23, 0) := rfl
theorem k78_35 : Kc C78 35 = (.ifCond .eq 13, 48, 0, 0, 0) := rfl
theorem k78_38 : Kc C78 38 = (.aload_n 0, 0, 0, 0, 0) := rfl
theorem k78_39 : Kc C78 39 = (.iconst 1, 0, 0, 0, 1) := rfl
theorem k78_40 : Kc C78 40 = (.bipush 30, 0, 0, 0, 30) := rfl
theorem k78_42 : Kc C78 42 = (.invokevirtual 47, 83, 2, 23, 0) := rfl
theorem k78_45 : Kc C78 45 = (.ifCond .ne 5, 50, 0, 0, 0) := rfl
theorem k78_48 : Kc C78 48 = (.iconst 0, 0, 0, 0, 0) := rfl
theorem k78_49 : Kc C78 49 = (.ireturn, 0, 0, 0, 0) := rfl
theorem k78_50 : Kc C78 50 = (.aload_n 1, 1, 0, 0, 0) := rfl
theorem k78_51 : Kc C78 51 = (.aload_n 0, 0, 0, 0, 0) := rfl
theorem k78_52 : Kc C78 52 = (.getfield 28, 7, 5, 0, 0) := rfl
theorem k78_55 : Kc C78 55 = (.putfield 54, 2, 1, 0, 0) := rfl
theorem k78_58 : Kc C78 58 = (.aload_n 0, 0, 0, 0, 0) := rfl
theorem k78_59 : Kc C78 59 = (.bipush 59, 0, 0, 0, 59) := rfl
theorem k78_61 : Kc C78 61 = (.invokevirtual 43, 82, 1, 23, 0) := rfl
theorem k78_64 : Kc C78 64 = (.ireturn, 0, 0, 0, 0) := rfl
theorem ev78 (d : Nat) (x0 : Nat) (x1 : Nat) (h : Hp) : EvM (d + 1) 78 [.ref x0, .ref x1] h = EvI (EvM d) C78 2 0 [.ref x0, .ref x1] [] h := rfl
theorem k79_0 : Kc C79 0 = (.aload_n 0, 0, 0, 0, 0) := rfl
theorem k79_1 : Kc C79 1 = (.invokevirtual 57, 81, 0, 22, 0) := rfl
theorem k79_4 : Kc C79 4 = (.invokestatic 61, 80, 1, 22, 0) := rfl
theorem k79_7 : Kc C79 7 = (.istore_n 2, 2, 0, 0, 0) := rfl
theorem k79_8 : Kc C79 8 = (.iload_n 2, 2, 0, 0, 0) := rfl
theorem k79_9 : Kc C79 9 = (.ifCond .ne 9, 18, 0, 0, 0) := rfl
theorem k79_12 : Kc C79 12 = (.aload_n 0, 0, 0, 0, 0) := rfl
theorem k79_13 : Kc C79 13 = (.iconst 1, 0, 0, 0, 1) := rfl
theorem k79_14 : Kc C79 14 = (.invokevirtual 65, 84, 1, 23, 0) := rfl
theorem k79_17 : Kc C79 17 = (.ireturn, 0, 0, 0, 0) := rfl
theorem k79_18 : Kc C79 18 = (.aload_n 1, 1, 0, 0, 0) := rfl
theorem k79_19 : Kc C79 19 = (.getfield 68, 2, 3, 0, 0) := rfl
theorem k79_22 : Kc C79 22 = (.bipush 6, 0, 0, 0, 6) := rfl
theorem k79_24 : Kc C79 24 = (.if_icmp .lt 9, 33, 0, 0, 0) := rfl
theorem k79_27 : Kc C79 27 = (.aload_n 0, 0, 0, 0, 0) := rfl
theorem k79_28 : Kc C79 28 = (.iconst 3, 0, 0, 0, 3) := rfl
theorem k79_29 : Kc C79 29 = (.invokevirtual 65, 84, 1, 23, 0) := rfl
theorem k79_32 : Kc C79 32 = (.ireturn, 0, 0, 0, 0) := rfl
theorem k79_33 : Kc C79 33 = (.aload_n 0, 0, 0, 0, 0) := rfl
theorem k79_34 : Kc C79 34 = (.dup, 0, 0, 0, 0) := rfl
theorem k79_35 : Kc C79 35 = (.getfield 25, 7, 4, 0, 0) := rfl
theorem k79_38 : Kc C79 38 = (.iconst 1, 0, 0, 0, 1) := rfl
theorem k79_39 : Kc C79 39 = (.iadd, 0, 0, 0, 0) := rfl
theorem k79_40 : Kc C79 40 = (.putfield 25, 7, 4, 0, 0) := rfl
theorem k79_43 : Kc C79 43 = (.aload_n 1, 1, 0, 0, 0) := rfl
theorem k79_44 : Kc C79 44 = (.getfield 71, 2, 4, 0, 0) := rfl
theorem k79_47 : Kc C79 47 = (.aload_n 1, 1, 0, 0, 0) := rfl
theorem k79_48 : Kc C79 48 = (.getfield 68, 2, 3, 0, 0) := rfl
theorem k79_51 : Kc C79 51 = (.aaload, 0, 0, 0, 0) := rfl
theorem k79_52 : Kc C79 52 = (.astore_n 3, 3, 0, 0, 0) := rfl
theorem k79_53 : Kc C79 53 = (.aload_n 1, 1, 0, 0, 0) := rfl
theorem k79_54 : Kc C79 54 = (.dup, 0, 0, 0, 0) := rfl
theorem k79_55 : Kc C79 55 = (.getfield 68, 2, 3, 0, 0) := rfl
theorem k79_58 : Kc C79 58 = (.iconst 1, 0, 0, 0, 1) := rfl
theorem k79_59 : Kc C79 59 = (.iadd, 0, 0, 0, 0) := rfl
theorem k79_60 : Kc C79 60 = (.putfield 68, 2, 3, 0, 0) := rfl
theorem k79_63 : Kc C79 63 = (.aload_n 3, 3, 0, 0, 0) := rfl
theorem k79_64 : Kc C79 64 = (.iload_n 2, 2, 0, 0, 0) := rfl
theorem k79_65 : Kc C79 65 = (.putfield 75, 4, 1, 0, 0) := rfl
theorem k79_68 : Kc C79 68 = (.aload_n 0, 0, 0, 0, 0) := rfl
theorem k79_69 : Kc C79 69 = (.iconst 0, 0, 0, 0, 0) := rfl
theorem k79_70 : Kc C79 70 = (.bipush 9, 0, 0, 0, 9) := rfl
theorem k79_72 : Kc C79 72 = (.invokevirtual 47, 83, 2, 23, 0) := rfl
theorem k79_75 : Kc C79 75 = (.ifCond .eq 12, 87, 0, 0, 0) := rfl
theorem k79_78 : Kc C79 78 = (.aload_n 0, 0, 0, 0, 0) := rfl
theorem k79_79 : Kc C79 79 = (.bipush 44, 0, 0, 0, 44) := rfl
theorem k79_81 : Kc C79 81 = (.invokevirtual 43, 82, 1, 23, 0) := rfl
theorem k79_84 : Kc C79 84 = (.ifCond .ne 5, 89, 0, 0, 0) := rfl
theorem k79_87 : Kc C79 87 = (.iconst 0, 0, 0, 0, 0) := rfl
theorem k79_88 : Kc C79 88 = (.ireturn, 0, 0, 0, 0) := rfl
theorem k79_89 : Kc C79 89 = (.aload_n 3, 3, 0, 0, 0) := rfl
theorem k79_90 : Kc C79 90 = (.aload_n 0, 0, 0, 0, 0) := rfl
theorem k79_91 : Kc C79 91 = (.getfield 28, 7, 5, 0, 0) := rfl
theorem k79_94 : Kc C79 94 = (.putfield 80, 4, 2, 0, 0) := rfl
theorem k79_97 : Kc C79 97 = (.aload_n 0, 0, 0, 0, 0) := rfl
theorem k79_98 : Kc C79 98 = (.iconst 0, 0, 0, 0, 0) := rfl
theorem k79_99 : Kc C79 99 = (.bipush 99, 0, 0, 0, 99) := rfl
theorem k79_101 : Kc C79 101 = (.invokevirtual 47, 83, 2, 23, 0) := rfl
theorem k79_104 : Kc C79 104 = (.ifCond .eq 12, 116, 0, 0, 0) := rfl
theorem k79_107 : Kc C79 107 = (.aload_n 0, 0, 0, 0, 0) := rfl
theorem k79_108 : Kc C79 108 = (.bipush 44, 0, 0, 0, 44) := rfl
theorem k79_110 : Kc C79 110 = (.invokevirtual 43, 82, 1, 23, 0) := rfl
theorem k79_113 : Kc C79 113 = (.ifCond .ne 5, 118, 0, 0, 0) := rfl
theorem k79_116 : Kc C79 116 = (.iconst 0, 0, 0, 0, 0) := rfl
theorem k79_117 : Kc C79 117 = (.ireturn, 0, 0, 0, 0) := rfl
theorem k79_118 : Kc C79 118 = (.aload_n 3, 3, 0, 0, 0) := rfl
theorem k79_119 : Kc C79 119 = (.aload_n 0, 0, 0, 0, 0) := rfl
theorem k79_120 : Kc C79 120 = (.getfield 28, 7, 5, 0, 0) := rfl
theorem k79_123 : Kc C79 123 = (.putfield 83, 4, 3, 0, 0) := rfl
theorem k79_126 : Kc C79 126 = (.aload_n 0, 0, 0, 0, 0) := rfl
theorem k79_127 : Kc C79 127 = (.iconst 0, 0, 0, 0, 0) := rfl
theorem k79_128 : Kc C79 128 = (.bipush 99, 0, 0, 0, 99) := rfl
theorem k79_130 : Kc C79 130 = (.invokevirtual 47, 83, 2, 23, 0) := rfl
theorem k79_133 : Kc C79 133 = (.ifCond .eq 12, 145, 0, 0, 0) := rfl
theorem k79_136 : Kc C79 136 = (.aload_n 0, 0, 0, 0, 0) := rfl
theorem k79_137 : Kc C79 137 = (.bipush 59, 0, 0, 0, 59) := rfl
theorem k79_139 : Kc C79 139 = (.invokevirtual 43, 82, 1, 23, 0) := rfl
theorem k79_142 : Kc C79 142 = (.ifCond .ne 5, 147, 0, 0, 0) := rfl
theorem k79_145 : Kc C79 145 = (.iconst 0, 0, 0, 0, 0) := rfl
theorem k79_146 : Kc C79 146 = (.ireturn, 0, 0, 0, 0) := rfl
theorem k79_147 : Kc C79 147 = (.aload_n 3, 3, 0, 0, 0) := rfl
theorem k79_148 : Kc C79 148 = (.aload_n 0, 0, 0, 0, 0) := rfl
theorem k79_149 : Kc C79 149 = (.getfield 28, 7, 5, 0, 0) := rfl
theorem k79_152 : Kc C79 152 = (.putfield 86, 4, 4, 0, 0) := rfl
theorem k79_155 : Kc C79 155 = (.iconst 1, 0, 0, 0, 1) := rfl
theorem k79_156 : Kc C79 156 = (.ireturn, 0, 0, 0, 0) := rfl
theorem ev79 (d : Nat) (x0 : Nat) (x1 : Nat) (h : Hp) : EvM (d + 1) 79 [.ref x0, .ref x1] h = EvI (EvM d) C79 2 0 [.ref x0, .ref x1, jk, jk] [] h := rfl
theorem k80_0 : Kc C80 0 = (.iload_n 0, 0, 0, 0, 0) := rfl
theorem k80_1 : Kc C80 1 = (.lookupswitch 61 #[(99, 51), (104, 55), (112, 59), (115, 53), (116, 57)], 0, 0, 0, 0) := rfl
theorem k80_52 : Kc C80 52 = (.iconst 1, 0, 0, 0, 1) := rfl
theorem k80_53 : Kc C80 53 = (.ireturn, 0, 0, 0, 0) := rfl
theorem k80_54 : Kc C80 54 = (.iconst 2, 0, 0, 0, 2) := rfl
theorem k80_55 : Kc C80 55 = (.ireturn, 0, 0, 0, 0) := rfl
theorem k80_56 : Kc C80 56 = (.iconst 3, 0, 0, 0, 3) := rfl
theorem k80_57 : Kc C80 57 = (.ireturn, 0, 0, 0, 0) := rfl
theorem k80_58 : Kc C80 58 = (.iconst 4, 0, 0, 0, 4) := rfl
theorem k80_59 : Kc C80 59 = (.ireturn, 0, 0, 0, 0) := rfl
theorem k80_60 : Kc C80 60 = (.iconst 5, 0, 0, 0, 5) := rfl
theorem k80_61 : Kc C80 61 = (.ireturn, 0, 0, 0, 0) := rfl
theorem k80_62 : Kc C80 62 = (.iconst 0, 0, 0, 0, 0) := rfl
theorem k80_63 : Kc C80 63 = (.ireturn, 0, 0, 0, 0) := rfl
theorem ev80 (d : Nat) (x0 : Int32) (h : Hp) : EvM (d + 1) 80 [.int x0] h = EvI (EvM d) C80 1 0 [.int x0] [] h := rfl
theorem k81_0 : Kc C81 0 = (.aload_n 0, 0, 0, 0, 0) := rfl
theorem k81_1 : Kc C81 1 = (.getfield 25, 7, 4, 0, 0) := rfl
theorem k81_4 : Kc C81 4 = (.aload_n 0, 0, 0, 0, 0) := rfl
theorem k81_5 : Kc C81 5 = (.getfield 15, 7, 1, 0, 0) := rfl
theorem k81_8 : Kc C81 8 = (.if_icmp .ge 15, 23, 0, 0, 0) := rfl
theorem k81_11 : Kc C81 11 = (.aload_n 0, 0, 0, 0, 0) := rfl
theorem k81_12 : Kc C81 12 = (.getfield 9, 7, 0, 0, 0) := rfl
theorem k81_15 : Kc C81 15 = (.aload_n 0, 0, 0, 0, 0) := rfl
theorem k81_16 : Kc C81 16 = (.getfield 25, 7, 4, 0, 0) := rfl
theorem k81_19 : Kc C81 19 = (.iaload, 0, 0, 0, 0) := rfl
theorem k81_20 : Kc C81 20 = (.goto 4, 24, 0, 0, 0) := rfl
theorem k81_23 : Kc C81 23 = (.iconst (-1), 0, 0, 0, (-1)) := rfl
theorem k81_24 : Kc C81 24 = (.ireturn, 0, 0, 0, 0) := rfl
theorem ev81 (d : Nat) (x0 : Nat) (h : Hp) : EvM (d + 1) 81 [.ref x0] h = EvI (EvM d) C81 1 0 [.ref x0] [] h := rfl
theorem k82_0 : Kc C82 0 = (.aload_n 0, 0, 0, 0, 0) := rfl
theorem k82_1 : Kc C82 1 = (.invokevirtual 57, 81, 0, 22, 0) := rfl
theorem k82_4 : Kc C82 4 = (.iload_n 1, 1, 0, 0, 0) := rfl
theorem k82_5 : Kc C82 5 = (.if_icmp .eq 9, 14, 0, 0, 0) := rfl
theorem k82_8 : Kc C82 8 = (.aload_n 0, 0, 0, 0, 0) := rfl
theorem k82_9 : Kc C82 9 = (.iconst 1, 0, 0, 0, 1) := rfl
theorem k82_10 : Kc C82 10 = (.invokevirtual 65, 84, 1, 23, 0) := rfl
theorem k82_13 : Kc C82 13 = (.ireturn, 0, 0, 0, 0) := rfl
theorem k82_14 : Kc C82 14 = (.aload_n 0, 0, 0, 0, 0) := rfl
theorem k82_15 : Kc C82 15 = (.dup, 0, 0, 0, 0) := rfl
theorem k82_16 : Kc C82 16 = (.getfield 25, 7, 4, 0, 0) := rfl
theorem k82_19 : Kc C82 19 = (.iconst 1, 0, 0, 0, 1) := rfl
theorem k82_20 : Kc C82 20 = (.iadd, 0, 0, 0, 0) := rfl
theorem k82_21 : Kc C82 21 = (.putfield 25, 7, 4, 0, 0) := rfl
theorem k82_24 : Kc C82 24 = (.iconst 1, 0, 0, 0, 1) := rfl
theorem k82_25 : Kc C82 25 = (.ireturn, 0, 0, 0, 0) := rfl
theorem ev82 (d : Nat) (x0 : Nat) (x1 : Int32) (h : Hp) : EvM (d + 1) 82 [.ref x0, .int x1] h = EvI (EvM d) C82 2 0 [.ref x0, .int x1] [] h := rfl
theorem k83_0 : Kc C83 0 = (.iconst 0, 0, 0, 0, 0) := rfl
theorem k83_1 : Kc C83 1 = (.istore_n 3, 3, 0, 0, 0) := rfl
theorem k83_2 : Kc C83 2 = (.iconst 0, 0, 0, 0, 0) := rfl
theorem k83_3 : Kc C83 3 = (.istore 4, 4, 0, 0, 0) := rfl
theorem k83_5 : Kc C83 5 = (.aload_n 0, 0, 0, 0, 0) := rfl
theorem k83_6 : Kc C83 6 = (.getfield 25, 7, 4, 0, 0) := rfl
theorem k83_9 : Kc C83 9 = (.istore 5, 5, 0, 0, 0) := rfl
theorem k83_11 : Kc C83 11 = (.iload 5, 5, 0, 0, 0) := rfl
theorem k83_13 : Kc C83 13 = (.aload_n 0, 0, 0, 0, 0) := rfl
theorem k83_14 : Kc C83 14 = (.getfield 15, 7, 1, 0, 0) := rfl
theorem k83_17 : Kc C83 17 = (.if_icmp .ge 52, 69, 0, 0, 0) := rfl
theorem k83_20 : Kc C83 20 = (.aload_n 0, 0, 0, 0, 0) := rfl
theorem k83_21 : Kc C83 21 = (.getfield 9, 7, 0, 0, 0) := rfl
theorem k83_24 : Kc C83 24 = (.iload 5, 5, 0, 0, 0) := rfl
theorem k83_26 : Kc C83 26 = (.iaload, 0, 0, 0, 0) := rfl
theorem k83_27 : Kc C83 27 = (.bipush 48, 0, 0, 0, 48) := rfl
theorem k83_29 : Kc C83 29 = (.bipush 57, 0, 0, 0, 57) := rfl
theorem k83_31 : Kc C83 31 = (.invokestatic 89, 121, 3, 26, 1) := rfl
theorem k83_34 : Kc C83 34 = (.ifCond .eq 35, 69, 0, 0, 0) := rfl
theorem k83_37 : Kc C83 37 = (.iload_n 3, 3, 0, 0, 0) := rfl
theorem k83_38 : Kc C83 38 = (.iconst 2, 0, 0, 0, 2) := rfl
theorem k83_39 : Kc C83 39 = (.if_icmp .gt 30, 69, 0, 0, 0) := rfl
theorem k83_42 : Kc C83 42 = (.iload 4, 4, 0, 0, 0) := rfl
theorem k83_44 : Kc C83 44 = (.bipush 10, 0, 0, 0, 10) := rfl
theorem k83_46 : Kc C83 46 = (.imul, 0, 0, 0, 0) := rfl
theorem k83_47 : Kc C83 47 = (.aload_n 0, 0, 0, 0, 0) := rfl
theorem k83_48 : Kc C83 48 = (.getfield 9, 7, 0, 0, 0) := rfl
theorem k83_51 : Kc C83 51 = (.iload 5, 5, 0, 0, 0) := rfl
theorem k83_53 : Kc C83 53 = (.iaload, 0, 0, 0, 0) := rfl
theorem k83_54 : Kc C83 54 = (.iadd, 0, 0, 0, 0) := rfl
theorem k83_55 : Kc C83 55 = (.bipush 48, 0, 0, 0, 48) := rfl
theorem k83_57 : Kc C83 57 = (.isub, 0, 0, 0, 0) := rfl
theorem k83_58 : Kc C83 58 = (.istore 4, 4, 0, 0, 0) := rfl
theorem k83_60 : Kc C83 60 = (.iinc 3 1, 3, 0, 0, 1) := rfl
theorem k83_63 : Kc C83 63 = (.iinc 5 1, 5, 0, 0, 1) := rfl
theorem k83_66 : Kc C83 66 = (.goto (-55), 11, 0, 0, 0) := rfl
theorem k83_69 : Kc C83 69 = (.iload_n 3, 3, 0, 0, 0) := rfl
theorem k83_70 : Kc C83 70 = (.iconst 1, 0, 0, 0, 1) := rfl
theorem k83_71 : Kc C83 71 = (.iconst 2, 0, 0, 0, 2) := rfl
theorem k83_72 : Kc C83 72 = (.invokestatic 89, 121, 3, 26, 1) := rfl
theorem k83_75 : Kc C83 75 = (.ifCond .ne 9, 84, 0, 0, 0) := rfl
theorem k83_78 : Kc C83 78 = (.aload_n 0, 0, 0, 0, 0) := rfl
theorem k83_79 : Kc C83 79 = (.iconst 1, 0, 0, 0, 1) := rfl
theorem k83_80 : Kc C83 80 = (.invokevirtual 65, 84, 1, 23, 0) := rfl
theorem k83_83 : Kc C83 83 = (.ireturn, 0, 0, 0, 0) := rfl
theorem k83_84 : Kc C83 84 = (.iload 4, 4, 0, 0, 0) := rfl
theorem k83_86 : Kc C83 86 = (.iload_n 1, 1, 0, 0, 0) := rfl
theorem k83_87 : Kc C83 87 = (.iload_n 2, 2, 0, 0, 0) := rfl
theorem k83_88 : Kc C83 88 = (.invokestatic 89, 121, 3, 26, 1) := rfl
theorem k83_91 : Kc C83 91 = (.ifCond .ne 9, 100, 0, 0, 0) := rfl
theorem k83_94 : Kc C83 94 = (.aload_n 0, 0, 0, 0, 0) := rfl
theorem k83_95 : Kc C83 95 = (.iconst 2, 0, 0, 0, 2) := rfl
theorem k83_96 : Kc C83 96 = (.invokevirtual 65, 84, 1, 23, 0) := rfl
theorem k83_99 : Kc C83 99 = (.ireturn, 0, 0, 0, 0) := rfl
theorem k83_100 : Kc C83 100 = (.aload_n 0, 0, 0, 0, 0) := rfl
theorem k83_101 : Kc C83 101 = (.dup, 0, 0, 0, 0) := rfl
theorem k83_102 : Kc C83 102 = (.getfield 25, 7, 4, 0, 0) := rfl
theorem k83_105 : Kc C83 105 = (.iload_n 3, 3, 0, 0, 0) := rfl
theorem k83_106 : Kc C83 106 = (.iadd, 0, 0, 0, 0) := rfl
theorem k83_107 : Kc C83 107 = (.putfield 25, 7, 4, 0, 0) := rfl
theorem k83_110 : Kc C83 110 = (.aload_n 0, 0, 0, 0, 0) := rfl
theorem k83_111 : Kc C83 111 = (.iload 4, 4, 0, 0, 0) := rfl
theorem k83_113 : Kc C83 113 = (.putfield 28, 7, 5, 0, 0) := rfl
theorem k83_116 : Kc C83 116 = (.iconst 1, 0, 0, 0, 1) := rfl
theorem k83_117 : Kc C83 117 = (.ireturn, 0, 0, 0, 0) := rfl
theorem ev83 (d : Nat) (x0 : Nat) (x1 : Int32) (x2 : Int32) (h : Hp) : EvM (d + 1) 83 [.ref x0, .int x1, .int x2] h = EvI (EvM d) C83 2 0 [.ref x0, .int x1, .int x2, jk, jk, jk] [] h := rfl
theorem k84_0 : Kc C84 0 = (.aload_n 0, 0, 0, 0, 0) := rfl
theorem k84_1 : Kc C84 1 = (.iload_n 1, 1, 0, 0, 0) := rfl
theorem k84_2 : Kc C84 2 = (.putfield 19, 7, 2, 0, 0) := rfl
theorem k84_5 : Kc C84 5 = (.aload_n 0, 0, 0, 0, 0) := rfl
theorem k84_6 : Kc C84 6 = (.aload_n 0, 0, 0, 0, 0) := rfl
theorem k84_7 : Kc C84 7 = (.getfield 25, 7, 4, 0, 0) := rfl
theorem k84_10 : Kc C84 10 = (.putfield 22, 7, 3, 0, 0) := rfl
theorem k84_13 : Kc C84 13 = (.iconst 0, 0, 0, 0, 0) := rfl
theorem k84_14 : Kc C84 14 = (.ireturn, 0, 0, 0, 0) := rfl
theorem ev84 (d : Nat) (x0 : Nat) (x1 : Int32) (h : Hp) : EvM (d + 1) 84 [.ref x0, .int x1] h = EvI (EvM d) C84 2 0 [.ref x0, .int x1] [] h := rfl
