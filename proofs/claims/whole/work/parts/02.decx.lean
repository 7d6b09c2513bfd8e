theorem dX0_init_0 : decode cX0_init 0 = .ok (.aload_n 0, 1) := by decide +kernel
theorem dX0_init_1 : decode cX0_init 1 = .ok (.invokespecial 3, 3) := by decide +kernel
theorem dX0_init_4 : decode cX0_init 4 = .ok (.aload_n 0, 1) := by decide +kernel
theorem dX0_init_5 : decode cX0_init 5 = .ok (.sipush 512, 3) := by decide +kernel
theorem dX0_init_8 : decode cX0_init 8 = .ok (.newarray .long, 2) := by decide +kernel
theorem dX0_init_10 : decode cX0_init 10 = .ok (.putfield 9, 3) := by decide +kernel
theorem dX0_init_13 : decode cX0_init 13 = .ok (.return_, 1) := by decide +kernel
theorem dX0_add_0 : decode cX0_add 0 = .ok (.aload_n 0, 1) := by decide +kernel
theorem dX0_add_1 : decode cX0_add 1 = .ok (.getfield 15, 3) := by decide +kernel
theorem dX0_add_4 : decode cX0_add 4 = .ok (.ifCond .lt 35, 3) := by decide +kernel
theorem dX0_add_7 : decode cX0_add 7 = .ok (.aload_n 0, 1) := by decide +kernel
theorem dX0_add_8 : decode cX0_add 8 = .ok (.getfield 15, 3) := by decide +kernel
theorem dX0_add_11 : decode cX0_add 11 = .ok (.aload_n 0, 1) := by decide +kernel
theorem dX0_add_12 : decode cX0_add 12 = .ok (.getfield 9, 3) := by decide +kernel
theorem dX0_add_15 : decode cX0_add 15 = .ok (.arraylength, 1) := by decide +kernel
theorem dX0_add_16 : decode cX0_add 16 = .ok (.if_icmp .ge 23, 3) := by decide +kernel
theorem dX0_add_19 : decode cX0_add 19 = .ok (.aload_n 0, 1) := by decide +kernel
theorem dX0_add_20 : decode cX0_add 20 = .ok (.getfield 9, 3) := by decide +kernel
theorem dX0_add_23 : decode cX0_add 23 = .ok (.aload_n 0, 1) := by decide +kernel
theorem dX0_add_24 : decode cX0_add 24 = .ok (.getfield 15, 3) := by decide +kernel
theorem dX0_add_27 : decode cX0_add 27 = .ok (.lload_n 1, 1) := by decide +kernel
theorem dX0_add_28 : decode cX0_add 28 = .ok (.lastore, 1) := by decide +kernel
theorem dX0_add_29 : decode cX0_add 29 = .ok (.aload_n 0, 1) := by decide +kernel
theorem dX0_add_30 : decode cX0_add 30 = .ok (.dup, 1) := by decide +kernel
theorem dX0_add_31 : decode cX0_add 31 = .ok (.getfield 15, 3) := by decide +kernel
theorem dX0_add_34 : decode cX0_add 34 = .ok (.iconst 1, 1) := by decide +kernel
theorem dX0_add_35 : decode cX0_add 35 = .ok (.iadd, 1) := by decide +kernel
theorem dX0_add_36 : decode cX0_add 36 = .ok (.putfield 15, 3) := by decide +kernel
theorem dX0_add_39 : decode cX0_add 39 = .ok (.return_, 1) := by decide +kernel
theorem dX0_tellUntil_0 : decode cX0_tellUntil 0 = .ok (.aload_n 0, 1) := by decide +kernel
theorem dX0_tellUntil_1 : decode cX0_tellUntil 1 = .ok (.getfield 19, 3) := by decide +kernel
theorem dX0_tellUntil_4 : decode cX0_tellUntil 4 = .ok (.istore_n 3, 1) := by decide +kernel
theorem dX0_tellUntil_5 : decode cX0_tellUntil 5 = .ok (.iload_n 3, 1) := by decide +kernel
theorem dX0_tellUntil_6 : decode cX0_tellUntil 6 = .ok (.istore 4, 2) := by decide +kernel
theorem dX0_tellUntil_8 : decode cX0_tellUntil 8 = .ok (.iload 4, 2) := by decide +kernel
theorem dX0_tellUntil_10 : decode cX0_tellUntil 10 = .ok (.ifCond .lt 48, 3) := by decide +kernel
theorem dX0_tellUntil_13 : decode cX0_tellUntil 13 = .ok (.iload 4, 2) := by decide +kernel
theorem dX0_tellUntil_15 : decode cX0_tellUntil 15 = .ok (.aload_n 0, 1) := by decide +kernel
theorem dX0_tellUntil_16 : decode cX0_tellUntil 16 = .ok (.getfield 15, 3) := by decide +kernel
theorem dX0_tellUntil_19 : decode cX0_tellUntil 19 = .ok (.if_icmp .ge 39, 3) := by decide +kernel
theorem dX0_tellUntil_22 : decode cX0_tellUntil 22 = .ok (.iload 4, 2) := by decide +kernel
theorem dX0_tellUntil_24 : decode cX0_tellUntil 24 = .ok (.aload_n 0, 1) := by decide +kernel
theorem dX0_tellUntil_25 : decode cX0_tellUntil 25 = .ok (.getfield 9, 3) := by decide +kernel
theorem dX0_tellUntil_28 : decode cX0_tellUntil 28 = .ok (.arraylength, 1) := by decide +kernel
theorem dX0_tellUntil_29 : decode cX0_tellUntil 29 = .ok (.if_icmp .ge 29, 3) := by decide +kernel
theorem dX0_tellUntil_32 : decode cX0_tellUntil 32 = .ok (.aload_n 0, 1) := by decide +kernel
theorem dX0_tellUntil_33 : decode cX0_tellUntil 33 = .ok (.getfield 9, 3) := by decide +kernel
theorem dX0_tellUntil_36 : decode cX0_tellUntil 36 = .ok (.iload 4, 2) := by decide +kernel
theorem dX0_tellUntil_38 : decode cX0_tellUntil 38 = .ok (.laload, 1) := by decide +kernel
theorem dX0_tellUntil_39 : decode cX0_tellUntil 39 = .ok (.lload_n 1, 1) := by decide +kernel
theorem dX0_tellUntil_40 : decode cX0_tellUntil 40 = .ok (.lcmp, 1) := by decide +kernel
theorem dX0_tellUntil_41 : decode cX0_tellUntil 41 = .ok (.ifCond .gt 17, 3) := by decide +kernel
theorem dX0_tellUntil_44 : decode cX0_tellUntil 44 = .ok (.aload_n 0, 1) := by decide +kernel
theorem dX0_tellUntil_45 : decode cX0_tellUntil 45 = .ok (.iload 4, 2) := by decide +kernel
theorem dX0_tellUntil_47 : decode cX0_tellUntil 47 = .ok (.iconst 1, 1) := by decide +kernel
theorem dX0_tellUntil_48 : decode cX0_tellUntil 48 = .ok (.iadd, 1) := by decide +kernel
theorem dX0_tellUntil_49 : decode cX0_tellUntil 49 = .ok (.putfield 19, 3) := by decide +kernel
theorem dX0_tellUntil_52 : decode cX0_tellUntil 52 = .ok (.iinc 4 1, 3) := by decide +kernel
theorem dX0_tellUntil_55 : decode cX0_tellUntil 55 = .ok (.goto (-47), 3) := by decide +kernel
theorem dX0_tellUntil_58 : decode cX0_tellUntil 58 = .ok (.aload_n 0, 1) := by decide +kernel
theorem dX0_tellUntil_59 : decode cX0_tellUntil 59 = .ok (.getfield 19, 3) := by decide +kernel
theorem dX0_tellUntil_62 : decode cX0_tellUntil 62 = .ok (.iload_n 3, 1) := by decide +kernel
theorem dX0_tellUntil_63 : decode cX0_tellUntil 63 = .ok (.isub, 1) := by decide +kernel
theorem dX0_tellUntil_64 : decode cX0_tellUntil 64 = .ok (.ireturn, 1) := by decide +kernel
theorem dX1_init_0 : decode cX1_init 0 = .ok (.aload_n 0, 1) := by decide +kernel
theorem dX1_init_1 : decode cX1_init 1 = .ok (.invokespecial 3, 3) := by decide +kernel
theorem dX1_init_4 : decode cX1_init 4 = .ok (.aload_n 0, 1) := by decide +kernel
theorem dX1_init_5 : decode cX1_init 5 = .ok (.iload_n 1, 1) := by decide +kernel
theorem dX1_init_6 : decode cX1_init 6 = .ok (.putfield 9, 3) := by decide +kernel
theorem dX1_init_9 : decode cX1_init 9 = .ok (.aload_n 0, 1) := by decide +kernel
theorem dX1_init_10 : decode cX1_init 10 = .ok (.new 15, 3) := by decide +kernel
theorem dX1_init_13 : decode cX1_init 13 = .ok (.dup, 1) := by decide +kernel
theorem dX1_init_14 : decode cX1_init 14 = .ok (.bipush 12, 2) := by decide +kernel
theorem dX1_init_16 : decode cX1_init 16 = .ok (.invokespecial 17, 3) := by decide +kernel
theorem dX1_init_19 : decode cX1_init 19 = .ok (.putfield 20, 3) := by decide +kernel
theorem dX1_init_22 : decode cX1_init 22 = .ok (.aload_n 0, 1) := by decide +kernel
theorem dX1_init_23 : decode cX1_init 23 = .ok (.new 15, 3) := by decide +kernel
theorem dX1_init_26 : decode cX1_init 26 = .ok (.dup, 1) := by decide +kernel
theorem dX1_init_27 : decode cX1_init 27 = .ok (.bipush 12, 2) := by decide +kernel
theorem dX1_init_29 : decode cX1_init 29 = .ok (.invokespecial 17, 3) := by decide +kernel
theorem dX1_init_32 : decode cX1_init 32 = .ok (.putfield 24, 3) := by decide +kernel
theorem dX1_init_35 : decode cX1_init 35 = .ok (.aload_n 0, 1) := by decide +kernel
theorem dX1_init_36 : decode cX1_init 36 = .ok (.new 15, 3) := by decide +kernel
theorem dX1_init_39 : decode cX1_init 39 = .ok (.dup, 1) := by decide +kernel
theorem dX1_init_40 : decode cX1_init 40 = .ok (.iconst 1, 1) := by decide +kernel
theorem dX1_init_41 : decode cX1_init 41 = .ok (.invokespecial 17, 3) := by decide +kernel
theorem dX1_init_44 : decode cX1_init 44 = .ok (.putfield 27, 3) := by decide +kernel
theorem dX1_init_47 : decode cX1_init 47 = .ok (.aload_n 0, 1) := by decide +kernel
theorem dX1_init_48 : decode cX1_init 48 = .ok (.new 15, 3) := by decide +kernel
theorem dX1_init_51 : decode cX1_init 51 = .ok (.dup, 1) := by decide +kernel
theorem dX1_init_52 : decode cX1_init 52 = .ok (.bipush 6, 2) := by decide +kernel
theorem dX1_init_54 : decode cX1_init 54 = .ok (.invokespecial 17, 3) := by decide +kernel
theorem dX1_init_57 : decode cX1_init 57 = .ok (.putfield 30, 3) := by decide +kernel
theorem dX1_init_60 : decode cX1_init 60 = .ok (.aload_n 0, 1) := by decide +kernel
theorem dX1_init_61 : decode cX1_init 61 = .ok (.new 15, 3) := by decide +kernel
theorem dX1_init_64 : decode cX1_init 64 = .ok (.dup, 1) := by decide +kernel
theorem dX1_init_65 : decode cX1_init 65 = .ok (.bipush 12, 2) := by decide +kernel
theorem dX1_init_67 : decode cX1_init 67 = .ok (.invokespecial 17, 3) := by decide +kernel
theorem dX1_init_70 : decode cX1_init 70 = .ok (.putfield 33, 3) := by decide +kernel
theorem dX1_init_73 : decode cX1_init 73 = .ok (.aload_n 0, 1) := by decide +kernel
theorem dX1_init_74 : decode cX1_init 74 = .ok (.new 15, 3) := by decide +kernel
theorem dX1_init_77 : decode cX1_init 77 = .ok (.dup, 1) := by decide +kernel
theorem dX1_init_78 : decode cX1_init 78 = .ok (.bipush 12, 2) := by decide +kernel
theorem dX1_init_80 : decode cX1_init 80 = .ok (.invokespecial 17, 3) := by decide +kernel
theorem dX1_init_83 : decode cX1_init 83 = .ok (.putfield 36, 3) := by decide +kernel
theorem dX1_init_86 : decode cX1_init 86 = .ok (.return_, 1) := by decide +kernel
theorem dX1_shut_0 : decode cX1_shut 0 = .ok (.aload_n 0, 1) := by decide +kernel
theorem dX1_shut_1 : decode cX1_shut 1 = .ok (.iconst 1, 1) := by decide +kernel
theorem dX1_shut_2 : decode cX1_shut 2 = .ok (.putfield 39, 3) := by decide +kernel
theorem dX1_shut_5 : decode cX1_shut 5 = .ok (.aload_n 0, 1) := by decide +kernel
theorem dX1_shut_6 : decode cX1_shut 6 = .ok (.iconst 1, 1) := by decide +kernel
theorem dX1_shut_7 : decode cX1_shut 7 = .ok (.putfield 43, 3) := by decide +kernel
theorem dX1_shut_10 : decode cX1_shut 10 = .ok (.aload_n 0, 1) := by decide +kernel
theorem dX1_shut_11 : decode cX1_shut 11 = .ok (.lload_n 1, 1) := by decide +kernel
theorem dX1_shut_12 : decode cX1_shut 12 = .ok (.putfield 46, 3) := by decide +kernel
theorem dX1_shut_15 : decode cX1_shut 15 = .ok (.aload_n 0, 1) := by decide +kernel
theorem dX1_shut_16 : decode cX1_shut 16 = .ok (.iload_n 3, 1) := by decide +kernel
theorem dX1_shut_17 : decode cX1_shut 17 = .ok (.putfield 50, 3) := by decide +kernel
theorem dX1_shut_20 : decode cX1_shut 20 = .ok (.aload_n 0, 1) := by decide +kernel
theorem dX1_shut_21 : decode cX1_shut 21 = .ok (.getfield 24, 3) := by decide +kernel
theorem dX1_shut_24 : decode cX1_shut 24 = .ok (.aload_n 0, 1) := by decide +kernel
theorem dX1_shut_25 : decode cX1_shut 25 = .ok (.getfield 20, 3) := by decide +kernel
theorem dX1_shut_28 : decode cX1_shut 28 = .ok (.invokevirtual 53, 3) := by decide +kernel
theorem dX1_shut_31 : decode cX1_shut 31 = .ok (.aload_n 0, 1) := by decide +kernel
theorem dX1_shut_32 : decode cX1_shut 32 = .ok (.getfield 30, 3) := by decide +kernel
theorem dX1_shut_35 : decode cX1_shut 35 = .ok (.invokevirtual 57, 3) := by decide +kernel
theorem dX1_shut_38 : decode cX1_shut 38 = .ok (.return_, 1) := by decide +kernel
theorem dX1_mayBeOpenedBy_0 : decode cX1_mayBeOpenedBy 0 = .ok (.aload_n 0, 1) := by decide +kernel
theorem dX1_mayBeOpenedBy_1 : decode cX1_mayBeOpenedBy 1 = .ok (.getfield 9, 3) := by decide +kernel
theorem dX1_mayBeOpenedBy_4 : decode cX1_mayBeOpenedBy 4 = .ok (.iconst 2, 1) := by decide +kernel
theorem dX1_mayBeOpenedBy_5 : decode cX1_mayBeOpenedBy 5 = .ok (.if_icmp .lt 19, 3) := by decide +kernel
theorem dX1_mayBeOpenedBy_8 : decode cX1_mayBeOpenedBy 8 = .ok (.iload_n 2, 1) := by decide +kernel
theorem dX1_mayBeOpenedBy_9 : decode cX1_mayBeOpenedBy 9 = .ok (.iconst (-1), 1) := by decide +kernel
theorem dX1_mayBeOpenedBy_10 : decode cX1_mayBeOpenedBy 10 = .ok (.if_icmp .eq 12, 3) := by decide +kernel
theorem dX1_mayBeOpenedBy_13 : decode cX1_mayBeOpenedBy 13 = .ok (.iload_n 1, 1) := by decide +kernel
theorem dX1_mayBeOpenedBy_14 : decode cX1_mayBeOpenedBy 14 = .ok (.iload_n 2, 1) := by decide +kernel
theorem dX1_mayBeOpenedBy_15 : decode cX1_mayBeOpenedBy 15 = .ok (.if_icmp .eq 7, 3) := by decide +kernel
theorem dX1_mayBeOpenedBy_18 : decode cX1_mayBeOpenedBy 18 = .ok (.iconst 1, 1) := by decide +kernel
theorem dX1_mayBeOpenedBy_19 : decode cX1_mayBeOpenedBy 19 = .ok (.goto 4, 3) := by decide +kernel
theorem dX1_mayBeOpenedBy_22 : decode cX1_mayBeOpenedBy 22 = .ok (.iconst 0, 1) := by decide +kernel
theorem dX1_mayBeOpenedBy_23 : decode cX1_mayBeOpenedBy 23 = .ok (.ireturn, 1) := by decide +kernel
theorem dX1_mayBeOpenedBy_24 : decode cX1_mayBeOpenedBy 24 = .ok (.iload_n 2, 1) := by decide +kernel
theorem dX1_mayBeOpenedBy_25 : decode cX1_mayBeOpenedBy 25 = .ok (.iconst (-1), 1) := by decide +kernel
theorem dX1_mayBeOpenedBy_26 : decode cX1_mayBeOpenedBy 26 = .ok (.if_icmp .ne 15, 3) := by decide +kernel
theorem dX1_mayBeOpenedBy_29 : decode cX1_mayBeOpenedBy 29 = .ok (.iload_n 1, 1) := by decide +kernel
theorem dX1_mayBeOpenedBy_30 : decode cX1_mayBeOpenedBy 30 = .ok (.aload_n 0, 1) := by decide +kernel
theorem dX1_mayBeOpenedBy_31 : decode cX1_mayBeOpenedBy 31 = .ok (.getfield 50, 3) := by decide +kernel
theorem dX1_mayBeOpenedBy_34 : decode cX1_mayBeOpenedBy 34 = .ok (.if_icmp .eq 7, 3) := by decide +kernel
theorem dX1_mayBeOpenedBy_37 : decode cX1_mayBeOpenedBy 37 = .ok (.iconst 1, 1) := by decide +kernel
theorem dX1_mayBeOpenedBy_38 : decode cX1_mayBeOpenedBy 38 = .ok (.goto 4, 3) := by decide +kernel
theorem dX1_mayBeOpenedBy_41 : decode cX1_mayBeOpenedBy 41 = .ok (.iconst 0, 1) := by decide +kernel
theorem dX1_mayBeOpenedBy_42 : decode cX1_mayBeOpenedBy 42 = .ok (.ireturn, 1) := by decide +kernel
theorem dX1_unseal_0 : decode cX1_unseal 0 = .ok (.aload_n 0, 1) := by decide +kernel
theorem dX1_unseal_1 : decode cX1_unseal 1 = .ok (.iconst 0, 1) := by decide +kernel
theorem dX1_unseal_2 : decode cX1_unseal 2 = .ok (.putfield 39, 3) := by decide +kernel
theorem dX1_unseal_5 : decode cX1_unseal 5 = .ok (.aload_n 0, 1) := by decide +kernel
theorem dX1_unseal_6 : decode cX1_unseal 6 = .ok (.getfield 27, 3) := by decide +kernel
theorem dX1_unseal_9 : decode cX1_unseal 9 = .ok (.invokevirtual 57, 3) := by decide +kernel
theorem dX1_unseal_12 : decode cX1_unseal 12 = .ok (.aload_n 0, 1) := by decide +kernel
theorem dX1_unseal_13 : decode cX1_unseal 13 = .ok (.getfield 33, 3) := by decide +kernel
theorem dX1_unseal_16 : decode cX1_unseal 16 = .ok (.aload_n 0, 1) := by decide +kernel
theorem dX1_unseal_17 : decode cX1_unseal 17 = .ok (.getfield 24, 3) := by decide +kernel
theorem dX1_unseal_20 : decode cX1_unseal 20 = .ok (.invokevirtual 53, 3) := by decide +kernel
theorem dX1_unseal_23 : decode cX1_unseal 23 = .ok (.aload_n 0, 1) := by decide +kernel
theorem dX1_unseal_24 : decode cX1_unseal 24 = .ok (.getfield 36, 3) := by decide +kernel
theorem dX1_unseal_27 : decode cX1_unseal 27 = .ok (.invokevirtual 57, 3) := by decide +kernel
theorem dX1_unseal_30 : decode cX1_unseal 30 = .ok (.lload_n 1, 1) := by decide +kernel
theorem dX1_unseal_31 : decode cX1_unseal 31 = .ok (.aload_n 0, 1) := by decide +kernel
theorem dX1_unseal_32 : decode cX1_unseal 32 = .ok (.getfield 46, 3) := by decide +kernel
theorem dX1_unseal_35 : decode cX1_unseal 35 = .ok (.lcmp, 1) := by decide +kernel
theorem dX1_unseal_36 : decode cX1_unseal 36 = .ok (.ifCond .ne 5, 3) := by decide +kernel
theorem dX1_unseal_39 : decode cX1_unseal 39 = .ok (.iconst 1, 1) := by decide +kernel
theorem dX1_unseal_40 : decode cX1_unseal 40 = .ok (.ireturn, 1) := by decide +kernel
theorem dX1_unseal_41 : decode cX1_unseal 41 = .ok (.aload_n 0, 1) := by decide +kernel
theorem dX1_unseal_42 : decode cX1_unseal 42 = .ok (.getfield 27, 3) := by decide +kernel
theorem dX1_unseal_45 : decode cX1_unseal 45 = .ok (.lload_n 1, 1) := by decide +kernel
theorem dX1_unseal_46 : decode cX1_unseal 46 = .ok (.l2i, 1) := by decide +kernel
theorem dX1_unseal_47 : decode cX1_unseal 47 = .ok (.invokevirtual 60, 3) := by decide +kernel
theorem dX1_unseal_50 : decode cX1_unseal 50 = .ok (.iconst 0, 1) := by decide +kernel
theorem dX1_unseal_51 : decode cX1_unseal 51 = .ok (.ireturn, 1) := by decide +kernel
theorem dX1_isChecked_0 : decode cX1_isChecked 0 = .ok (.aload_n 0, 1) := by decide +kernel
theorem dX1_isChecked_1 : decode cX1_isChecked 1 = .ok (.getfield 39, 3) := by decide +kernel
theorem dX1_isChecked_4 : decode cX1_isChecked 4 = .ok (.ifCond .ne 14, 3) := by decide +kernel
theorem dX1_isChecked_7 : decode cX1_isChecked 7 = .ok (.aload_n 0, 1) := by decide +kernel
theorem dX1_isChecked_8 : decode cX1_isChecked 8 = .ok (.getfield 43, 3) := by decide +kernel
theorem dX1_isChecked_11 : decode cX1_isChecked 11 = .ok (.ifCond .eq 7, 3) := by decide +kernel
theorem dX1_isChecked_14 : decode cX1_isChecked 14 = .ok (.iconst 1, 1) := by decide +kernel
theorem dX1_isChecked_15 : decode cX1_isChecked 15 = .ok (.goto 4, 3) := by decide +kernel
theorem dX1_isChecked_18 : decode cX1_isChecked 18 = .ok (.iconst 0, 1) := by decide +kernel
theorem dX1_isChecked_19 : decode cX1_isChecked 19 = .ok (.ireturn, 1) := by decide +kernel
theorem dX1_differencesOf_0 : decode cX1_differencesOf 0 = .ok (.iload_n 1, 1) := by decide +kernel
theorem dX1_differencesOf_1 : decode cX1_differencesOf 1 = .ok (.tableswitch 42 0 2 #[27, 32, 37], 27) := by decide +kernel
theorem dX1_differencesOf_28 : decode cX1_differencesOf 28 = .ok (.aload_n 0, 1) := by decide +kernel
theorem dX1_differencesOf_29 : decode cX1_differencesOf 29 = .ok (.getfield 27, 3) := by decide +kernel
theorem dX1_differencesOf_32 : decode cX1_differencesOf 32 = .ok (.areturn, 1) := by decide +kernel
theorem dX1_differencesOf_33 : decode cX1_differencesOf 33 = .ok (.aload_n 0, 1) := by decide +kernel
theorem dX1_differencesOf_34 : decode cX1_differencesOf 34 = .ok (.getfield 30, 3) := by decide +kernel
theorem dX1_differencesOf_37 : decode cX1_differencesOf 37 = .ok (.areturn, 1) := by decide +kernel
theorem dX1_differencesOf_38 : decode cX1_differencesOf 38 = .ok (.aload_n 0, 1) := by decide +kernel
theorem dX1_differencesOf_39 : decode cX1_differencesOf 39 = .ok (.getfield 33, 3) := by decide +kernel
theorem dX1_differencesOf_42 : decode cX1_differencesOf 42 = .ok (.areturn, 1) := by decide +kernel
theorem dX1_differencesOf_43 : decode cX1_differencesOf 43 = .ok (.aload_n 0, 1) := by decide +kernel
theorem dX1_differencesOf_44 : decode cX1_differencesOf 44 = .ok (.getfield 36, 3) := by decide +kernel
theorem dX1_differencesOf_47 : decode cX1_differencesOf 47 = .ok (.areturn, 1) := by decide +kernel
theorem dX2_init_0 : decode cX2_init 0 = .ok (.aload_n 0, 1) := by decide +kernel
theorem dX2_init_1 : decode cX2_init 1 = .ok (.invokespecial 1, 3) := by decide +kernel
theorem dX2_init_4 : decode cX2_init 4 = .ok (.aload_n 0, 1) := by decide +kernel
theorem dX2_init_5 : decode cX2_init 5 = .ok (.iload_n 1, 1) := by decide +kernel
theorem dX2_init_6 : decode cX2_init 6 = .ok (.ifCond .ge 7, 3) := by decide +kernel
theorem dX2_init_9 : decode cX2_init 9 = .ok (.iconst 0, 1) := by decide +kernel
theorem dX2_init_10 : decode cX2_init 10 = .ok (.goto 4, 3) := by decide +kernel
theorem dX2_init_13 : decode cX2_init 13 = .ok (.iload_n 1, 1) := by decide +kernel
theorem dX2_init_14 : decode cX2_init 14 = .ok (.newarray .int, 2) := by decide +kernel
theorem dX2_init_16 : decode cX2_init 16 = .ok (.putfield 7, 3) := by decide +kernel
theorem dX2_init_19 : decode cX2_init 19 = .ok (.return_, 1) := by decide +kernel
theorem dX2_size_0 : decode cX2_size 0 = .ok (.aload_n 0, 1) := by decide +kernel
theorem dX2_size_1 : decode cX2_size 1 = .ok (.getfield 13, 3) := by decide +kernel
theorem dX2_size_4 : decode cX2_size 4 = .ok (.ireturn, 1) := by decide +kernel
theorem dX2_isFull_0 : decode cX2_isFull 0 = .ok (.aload_n 0, 1) := by decide +kernel
theorem dX2_isFull_1 : decode cX2_isFull 1 = .ok (.getfield 13, 3) := by decide +kernel
theorem dX2_isFull_4 : decode cX2_isFull 4 = .ok (.aload_n 0, 1) := by decide +kernel
theorem dX2_isFull_5 : decode cX2_isFull 5 = .ok (.getfield 7, 3) := by decide +kernel
theorem dX2_isFull_8 : decode cX2_isFull 8 = .ok (.arraylength, 1) := by decide +kernel
theorem dX2_isFull_9 : decode cX2_isFull 9 = .ok (.if_icmp .lt 7, 3) := by decide +kernel
theorem dX2_isFull_12 : decode cX2_isFull 12 = .ok (.iconst 1, 1) := by decide +kernel
theorem dX2_isFull_13 : decode cX2_isFull 13 = .ok (.goto 4, 3) := by decide +kernel
theorem dX2_isFull_16 : decode cX2_isFull 16 = .ok (.iconst 0, 1) := by decide +kernel
theorem dX2_isFull_17 : decode cX2_isFull 17 = .ok (.ireturn, 1) := by decide +kernel
theorem dX2_at_0 : decode cX2_at 0 = .ok (.iload_n 1, 1) := by decide +kernel
theorem dX2_at_1 : decode cX2_at 1 = .ok (.ifCond .lt 29, 3) := by decide +kernel
theorem dX2_at_4 : decode cX2_at 4 = .ok (.iload_n 1, 1) := by decide +kernel
theorem dX2_at_5 : decode cX2_at 5 = .ok (.aload_n 0, 1) := by decide +kernel
theorem dX2_at_6 : decode cX2_at 6 = .ok (.getfield 13, 3) := by decide +kernel
theorem dX2_at_9 : decode cX2_at 9 = .ok (.if_icmp .ge 21, 3) := by decide +kernel
theorem dX2_at_12 : decode cX2_at 12 = .ok (.iload_n 1, 1) := by decide +kernel
theorem dX2_at_13 : decode cX2_at 13 = .ok (.aload_n 0, 1) := by decide +kernel
theorem dX2_at_14 : decode cX2_at 14 = .ok (.getfield 7, 3) := by decide +kernel
theorem dX2_at_17 : decode cX2_at 17 = .ok (.arraylength, 1) := by decide +kernel
theorem dX2_at_18 : decode cX2_at 18 = .ok (.if_icmp .ge 12, 3) := by decide +kernel
theorem dX2_at_21 : decode cX2_at 21 = .ok (.aload_n 0, 1) := by decide +kernel
theorem dX2_at_22 : decode cX2_at 22 = .ok (.getfield 7, 3) := by decide +kernel
theorem dX2_at_25 : decode cX2_at 25 = .ok (.iload_n 1, 1) := by decide +kernel
theorem dX2_at_26 : decode cX2_at 26 = .ok (.iaload, 1) := by decide +kernel
theorem dX2_at_27 : decode cX2_at 27 = .ok (.goto 4, 3) := by decide +kernel
theorem dX2_at_30 : decode cX2_at 30 = .ok (.iconst 0, 1) := by decide +kernel
theorem dX2_at_31 : decode cX2_at 31 = .ok (.ireturn, 1) := by decide +kernel
theorem dX2_holds_0 : decode cX2_holds 0 = .ok (.iconst 0, 1) := by decide +kernel
theorem dX2_holds_1 : decode cX2_holds 1 = .ok (.istore_n 2, 1) := by decide +kernel
theorem dX2_holds_2 : decode cX2_holds 2 = .ok (.iload_n 2, 1) := by decide +kernel
theorem dX2_holds_3 : decode cX2_holds 3 = .ok (.aload_n 0, 1) := by decide +kernel
theorem dX2_holds_4 : decode cX2_holds 4 = .ok (.getfield 13, 3) := by decide +kernel
theorem dX2_holds_7 : decode cX2_holds 7 = .ok (.if_icmp .ge 30, 3) := by decide +kernel
theorem dX2_holds_10 : decode cX2_holds 10 = .ok (.iload_n 2, 1) := by decide +kernel
theorem dX2_holds_11 : decode cX2_holds 11 = .ok (.aload_n 0, 1) := by decide +kernel
theorem dX2_holds_12 : decode cX2_holds 12 = .ok (.getfield 7, 3) := by decide +kernel
theorem dX2_holds_15 : decode cX2_holds 15 = .ok (.arraylength, 1) := by decide +kernel
theorem dX2_holds_16 : decode cX2_holds 16 = .ok (.if_icmp .ge 21, 3) := by decide +kernel
theorem dX2_holds_19 : decode cX2_holds 19 = .ok (.aload_n 0, 1) := by decide +kernel
theorem dX2_holds_20 : decode cX2_holds 20 = .ok (.getfield 7, 3) := by decide +kernel
theorem dX2_holds_23 : decode cX2_holds 23 = .ok (.iload_n 2, 1) := by decide +kernel
theorem dX2_holds_24 : decode cX2_holds 24 = .ok (.iaload, 1) := by decide +kernel
theorem dX2_holds_25 : decode cX2_holds 25 = .ok (.iload_n 1, 1) := by decide +kernel
theorem dX2_holds_26 : decode cX2_holds 26 = .ok (.if_icmp .ne 5, 3) := by decide +kernel
theorem dX2_holds_29 : decode cX2_holds 29 = .ok (.iconst 1, 1) := by decide +kernel
theorem dX2_holds_30 : decode cX2_holds 30 = .ok (.ireturn, 1) := by decide +kernel
theorem dX2_holds_31 : decode cX2_holds 31 = .ok (.iinc 2 1, 3) := by decide +kernel
theorem dX2_holds_34 : decode cX2_holds 34 = .ok (.goto (-32), 3) := by decide +kernel
theorem dX2_holds_37 : decode cX2_holds 37 = .ok (.iconst 0, 1) := by decide +kernel
theorem dX2_holds_38 : decode cX2_holds 38 = .ok (.ireturn, 1) := by decide +kernel
theorem dX2_append_0 : decode cX2_append 0 = .ok (.aload_n 0, 1) := by decide +kernel
theorem dX2_append_1 : decode cX2_append 1 = .ok (.getfield 13, 3) := by decide +kernel
theorem dX2_append_4 : decode cX2_append 4 = .ok (.ifCond .lt 35, 3) := by decide +kernel
theorem dX2_append_7 : decode cX2_append 7 = .ok (.aload_n 0, 1) := by decide +kernel
theorem dX2_append_8 : decode cX2_append 8 = .ok (.getfield 13, 3) := by decide +kernel
theorem dX2_append_11 : decode cX2_append 11 = .ok (.aload_n 0, 1) := by decide +kernel
theorem dX2_append_12 : decode cX2_append 12 = .ok (.getfield 7, 3) := by decide +kernel
theorem dX2_append_15 : decode cX2_append 15 = .ok (.arraylength, 1) := by decide +kernel
theorem dX2_append_16 : decode cX2_append 16 = .ok (.if_icmp .ge 23, 3) := by decide +kernel
theorem dX2_append_19 : decode cX2_append 19 = .ok (.aload_n 0, 1) := by decide +kernel
theorem dX2_append_20 : decode cX2_append 20 = .ok (.getfield 7, 3) := by decide +kernel
theorem dX2_append_23 : decode cX2_append 23 = .ok (.aload_n 0, 1) := by decide +kernel
theorem dX2_append_24 : decode cX2_append 24 = .ok (.getfield 13, 3) := by decide +kernel
theorem dX2_append_27 : decode cX2_append 27 = .ok (.iload_n 1, 1) := by decide +kernel
theorem dX2_append_28 : decode cX2_append 28 = .ok (.iastore, 1) := by decide +kernel
theorem dX2_append_29 : decode cX2_append 29 = .ok (.aload_n 0, 1) := by decide +kernel
theorem dX2_append_30 : decode cX2_append 30 = .ok (.dup, 1) := by decide +kernel
theorem dX2_append_31 : decode cX2_append 31 = .ok (.getfield 13, 3) := by decide +kernel
theorem dX2_append_34 : decode cX2_append 34 = .ok (.iconst 1, 1) := by decide +kernel
theorem dX2_append_35 : decode cX2_append 35 = .ok (.iadd, 1) := by decide +kernel
theorem dX2_append_36 : decode cX2_append 36 = .ok (.putfield 13, 3) := by decide +kernel
theorem dX2_append_39 : decode cX2_append 39 = .ok (.return_, 1) := by decide +kernel
theorem dX2_remove_0 : decode cX2_remove 0 = .ok (.iconst 0, 1) := by decide +kernel
theorem dX2_remove_1 : decode cX2_remove 1 = .ok (.istore_n 2, 1) := by decide +kernel
theorem dX2_remove_2 : decode cX2_remove 2 = .ok (.iconst 0, 1) := by decide +kernel
theorem dX2_remove_3 : decode cX2_remove 3 = .ok (.istore_n 3, 1) := by decide +kernel
theorem dX2_remove_4 : decode cX2_remove 4 = .ok (.iload_n 3, 1) := by decide +kernel
theorem dX2_remove_5 : decode cX2_remove 5 = .ok (.aload_n 0, 1) := by decide +kernel
theorem dX2_remove_6 : decode cX2_remove 6 = .ok (.getfield 13, 3) := by decide +kernel
theorem dX2_remove_9 : decode cX2_remove 9 = .ok (.if_icmp .ge 48, 3) := by decide +kernel
theorem dX2_remove_12 : decode cX2_remove 12 = .ok (.iload_n 3, 1) := by decide +kernel
theorem dX2_remove_13 : decode cX2_remove 13 = .ok (.aload_n 0, 1) := by decide +kernel
theorem dX2_remove_14 : decode cX2_remove 14 = .ok (.getfield 7, 3) := by decide +kernel
theorem dX2_remove_17 : decode cX2_remove 17 = .ok (.arraylength, 1) := by decide +kernel
theorem dX2_remove_18 : decode cX2_remove 18 = .ok (.if_icmp .ge 39, 3) := by decide +kernel
theorem dX2_remove_21 : decode cX2_remove 21 = .ok (.aload_n 0, 1) := by decide +kernel
theorem dX2_remove_22 : decode cX2_remove 22 = .ok (.getfield 7, 3) := by decide +kernel
theorem dX2_remove_25 : decode cX2_remove 25 = .ok (.iload_n 3, 1) := by decide +kernel
theorem dX2_remove_26 : decode cX2_remove 26 = .ok (.iaload, 1) := by decide +kernel
theorem dX2_remove_27 : decode cX2_remove 27 = .ok (.iload_n 1, 1) := by decide +kernel
theorem dX2_remove_28 : decode cX2_remove 28 = .ok (.if_icmp .eq 23, 3) := by decide +kernel
theorem dX2_remove_31 : decode cX2_remove 31 = .ok (.iload_n 2, 1) := by decide +kernel
theorem dX2_remove_32 : decode cX2_remove 32 = .ok (.iload_n 3, 1) := by decide +kernel
theorem dX2_remove_33 : decode cX2_remove 33 = .ok (.if_icmp .gt 18, 3) := by decide +kernel
theorem dX2_remove_36 : decode cX2_remove 36 = .ok (.aload_n 0, 1) := by decide +kernel
theorem dX2_remove_37 : decode cX2_remove 37 = .ok (.getfield 7, 3) := by decide +kernel
theorem dX2_remove_40 : decode cX2_remove 40 = .ok (.iload_n 2, 1) := by decide +kernel
theorem dX2_remove_41 : decode cX2_remove 41 = .ok (.aload_n 0, 1) := by decide +kernel
theorem dX2_remove_42 : decode cX2_remove 42 = .ok (.getfield 7, 3) := by decide +kernel
theorem dX2_remove_45 : decode cX2_remove 45 = .ok (.iload_n 3, 1) := by decide +kernel
theorem dX2_remove_46 : decode cX2_remove 46 = .ok (.iaload, 1) := by decide +kernel
theorem dX2_remove_47 : decode cX2_remove 47 = .ok (.iastore, 1) := by decide +kernel
theorem dX2_remove_48 : decode cX2_remove 48 = .ok (.iinc 2 1, 3) := by decide +kernel
theorem dX2_remove_51 : decode cX2_remove 51 = .ok (.iinc 3 1, 3) := by decide +kernel
theorem dX2_remove_54 : decode cX2_remove 54 = .ok (.goto (-50), 3) := by decide +kernel
theorem dX2_remove_57 : decode cX2_remove 57 = .ok (.aload_n 0, 1) := by decide +kernel
theorem dX2_remove_58 : decode cX2_remove 58 = .ok (.iload_n 2, 1) := by decide +kernel
theorem dX2_remove_59 : decode cX2_remove 59 = .ok (.putfield 13, 3) := by decide +kernel
theorem dX2_remove_62 : decode cX2_remove 62 = .ok (.return_, 1) := by decide +kernel
theorem dX2_clear_0 : decode cX2_clear 0 = .ok (.aload_n 0, 1) := by decide +kernel
theorem dX2_clear_1 : decode cX2_clear 1 = .ok (.iconst 0, 1) := by decide +kernel
theorem dX2_clear_2 : decode cX2_clear 2 = .ok (.putfield 13, 3) := by decide +kernel
theorem dX2_clear_5 : decode cX2_clear 5 = .ok (.return_, 1) := by decide +kernel
theorem dX2_becomeLike_0 : decode cX2_becomeLike 0 = .ok (.aload_n 0, 1) := by decide +kernel
theorem dX2_becomeLike_1 : decode cX2_becomeLike 1 = .ok (.invokevirtual 17, 3) := by decide +kernel
theorem dX2_becomeLike_4 : decode cX2_becomeLike 4 = .ok (.iconst 0, 1) := by decide +kernel
theorem dX2_becomeLike_5 : decode cX2_becomeLike 5 = .ok (.istore_n 2, 1) := by decide +kernel
theorem dX2_becomeLike_6 : decode cX2_becomeLike 6 = .ok (.iload_n 2, 1) := by decide +kernel
theorem dX2_becomeLike_7 : decode cX2_becomeLike 7 = .ok (.aload_n 1, 1) := by decide +kernel
theorem dX2_becomeLike_8 : decode cX2_becomeLike 8 = .ok (.invokevirtual 20, 3) := by decide +kernel
theorem dX2_becomeLike_11 : decode cX2_becomeLike 11 = .ok (.if_icmp .ge 18, 3) := by decide +kernel
theorem dX2_becomeLike_14 : decode cX2_becomeLike 14 = .ok (.aload_n 0, 1) := by decide +kernel
theorem dX2_becomeLike_15 : decode cX2_becomeLike 15 = .ok (.aload_n 1, 1) := by decide +kernel
theorem dX2_becomeLike_16 : decode cX2_becomeLike 16 = .ok (.iload_n 2, 1) := by decide +kernel
theorem dX2_becomeLike_17 : decode cX2_becomeLike 17 = .ok (.invokevirtual 23, 3) := by decide +kernel
theorem dX2_becomeLike_20 : decode cX2_becomeLike 20 = .ok (.invokevirtual 27, 3) := by decide +kernel
theorem dX2_becomeLike_23 : decode cX2_becomeLike 23 = .ok (.iinc 2 1, 3) := by decide +kernel
theorem dX2_becomeLike_26 : decode cX2_becomeLike 26 = .ok (.goto (-20), 3) := by decide +kernel
theorem dX2_becomeLike_29 : decode cX2_becomeLike 29 = .ok (.return_, 1) := by decide +kernel
theorem dX3_init_0 : decode cX3_init 0 = .ok (.aload_n 0, 1) := by decide +kernel
theorem dX3_init_1 : decode cX3_init 1 = .ok (.invokespecial 3, 3) := by decide +kernel
theorem dX3_init_4 : decode cX3_init 4 = .ok (.aload_n 0, 1) := by decide +kernel
theorem dX3_init_5 : decode cX3_init 5 = .ok (.bipush 60, 2) := by decide +kernel
theorem dX3_init_7 : decode cX3_init 7 = .ok (.anewarray 9, 3) := by decide +kernel
theorem dX3_init_10 : decode cX3_init 10 = .ok (.putfield 11, 3) := by decide +kernel
theorem dX3_init_13 : decode cX3_init 13 = .ok (.aload_n 0, 1) := by decide +kernel
theorem dX3_init_14 : decode cX3_init 14 = .ok (.sipush 1061, 3) := by decide +kernel
theorem dX3_init_17 : decode cX3_init 17 = .ok (.newarray .int, 2) := by decide +kernel
theorem dX3_init_19 : decode cX3_init 19 = .ok (.putfield 15, 3) := by decide +kernel
theorem dX3_init_22 : decode cX3_init 22 = .ok (.aload_n 0, 1) := by decide +kernel
theorem dX3_init_23 : decode cX3_init 23 = .ok (.sipush 1061, 3) := by decide +kernel
theorem dX3_init_26 : decode cX3_init 26 = .ok (.newarray .int, 2) := by decide +kernel
theorem dX3_init_28 : decode cX3_init 28 = .ok (.putfield 19, 3) := by decide +kernel
theorem dX3_init_31 : decode cX3_init 31 = .ok (.aload_n 0, 1) := by decide +kernel
theorem dX3_init_32 : decode cX3_init 32 = .ok (.new 22, 3) := by decide +kernel
theorem dX3_init_35 : decode cX3_init 35 = .ok (.dup, 1) := by decide +kernel
theorem dX3_init_36 : decode cX3_init 36 = .ok (.invokespecial 24, 3) := by decide +kernel
theorem dX3_init_39 : decode cX3_init 39 = .ok (.putfield 25, 3) := by decide +kernel
theorem dX3_init_42 : decode cX3_init 42 = .ok (.return_, 1) := by decide +kernel
theorem dX3_bag_0 : decode cX3_bag 0 = .ok (.iload_n 1, 1) := by decide +kernel
theorem dX3_bag_1 : decode cX3_bag 1 = .ok (.ifCond .lt 8, 3) := by decide +kernel
theorem dX3_bag_4 : decode cX3_bag 4 = .ok (.iload_n 1, 1) := by decide +kernel
theorem dX3_bag_5 : decode cX3_bag 5 = .ok (.iconst 3, 1) := by decide +kernel
theorem dX3_bag_6 : decode cX3_bag 6 = .ok (.if_icmp .le 6, 3) := by decide +kernel
theorem dX3_bag_9 : decode cX3_bag 9 = .ok (.bipush (-12), 2) := by decide +kernel
theorem dX3_bag_11 : decode cX3_bag 11 = .ok (.ireturn, 1) := by decide +kernel
theorem dX3_bag_12 : decode cX3_bag 12 = .ok (.aload_n 0, 1) := by decide +kernel
theorem dX3_bag_13 : decode cX3_bag 13 = .ok (.getfield 29, 3) := by decide +kernel
theorem dX3_bag_16 : decode cX3_bag 16 = .ok (.istore_n 2, 1) := by decide +kernel
theorem dX3_bag_17 : decode cX3_bag 17 = .ok (.iload_n 2, 1) := by decide +kernel
theorem dX3_bag_18 : decode cX3_bag 18 = .ok (.ifCond .lt 12, 3) := by decide +kernel
theorem dX3_bag_21 : decode cX3_bag 21 = .ok (.iload_n 2, 1) := by decide +kernel
theorem dX3_bag_22 : decode cX3_bag 22 = .ok (.aload_n 0, 1) := by decide +kernel
theorem dX3_bag_23 : decode cX3_bag 23 = .ok (.getfield 11, 3) := by decide +kernel
theorem dX3_bag_26 : decode cX3_bag 26 = .ok (.arraylength, 1) := by decide +kernel
theorem dX3_bag_27 : decode cX3_bag 27 = .ok (.if_icmp .lt 6, 3) := by decide +kernel
theorem dX3_bag_30 : decode cX3_bag 30 = .ok (.bipush (-14), 2) := by decide +kernel
theorem dX3_bag_32 : decode cX3_bag 32 = .ok (.ireturn, 1) := by decide +kernel
theorem dX3_bag_33 : decode cX3_bag 33 = .ok (.aload_n 0, 1) := by decide +kernel
theorem dX3_bag_34 : decode cX3_bag 34 = .ok (.getfield 11, 3) := by decide +kernel
theorem dX3_bag_37 : decode cX3_bag 37 = .ok (.iload_n 2, 1) := by decide +kernel
theorem dX3_bag_38 : decode cX3_bag 38 = .ok (.new 9, 3) := by decide +kernel
theorem dX3_bag_41 : decode cX3_bag 41 = .ok (.dup, 1) := by decide +kernel
theorem dX3_bag_42 : decode cX3_bag 42 = .ok (.iload_n 1, 1) := by decide +kernel
theorem dX3_bag_43 : decode cX3_bag 43 = .ok (.invokespecial 33, 3) := by decide +kernel
theorem dX3_bag_46 : decode cX3_bag 46 = .ok (.aastore, 1) := by decide +kernel
theorem dX3_bag_47 : decode cX3_bag 47 = .ok (.aload_n 0, 1) := by decide +kernel
theorem dX3_bag_48 : decode cX3_bag 48 = .ok (.iload_n 2, 1) := by decide +kernel
theorem dX3_bag_49 : decode cX3_bag 49 = .ok (.iconst 1, 1) := by decide +kernel
theorem dX3_bag_50 : decode cX3_bag 50 = .ok (.iadd, 1) := by decide +kernel
theorem dX3_bag_51 : decode cX3_bag 51 = .ok (.putfield 29, 3) := by decide +kernel
theorem dX3_bag_54 : decode cX3_bag 54 = .ok (.sipush 1000, 3) := by decide +kernel
theorem dX3_bag_57 : decode cX3_bag 57 = .ok (.aload_n 0, 1) := by decide +kernel
theorem dX3_bag_58 : decode cX3_bag 58 = .ok (.getfield 29, 3) := by decide +kernel
theorem dX3_bag_61 : decode cX3_bag 61 = .ok (.iadd, 1) := by decide +kernel
theorem dX3_bag_62 : decode cX3_bag 62 = .ok (.ireturn, 1) := by decide +kernel
theorem dX3_into_0 : decode cX3_into 0 = .ok (.aload_n 0, 1) := by decide +kernel
theorem dX3_into_1 : decode cX3_into 1 = .ok (.iload_n 1, 1) := by decide +kernel
theorem dX3_into_2 : decode cX3_into 2 = .ok (.invokevirtual 36, 3) := by decide +kernel
theorem dX3_into_5 : decode cX3_into 5 = .ok (.astore_n 3, 1) := by decide +kernel
theorem dX3_into_6 : decode cX3_into 6 = .ok (.aload_n 3, 1) := by decide +kernel
theorem dX3_into_7 : decode cX3_into 7 = .ok (.ifnull 11, 3) := by decide +kernel
theorem dX3_into_10 : decode cX3_into 10 = .ok (.aload_n 0, 1) := by decide +kernel
theorem dX3_into_11 : decode cX3_into 11 = .ok (.iload_n 2, 1) := by decide +kernel
theorem dX3_into_12 : decode cX3_into 12 = .ok (.invokevirtual 40, 3) := by decide +kernel
theorem dX3_into_15 : decode cX3_into 15 = .ok (.ifCond .ne 6, 3) := by decide +kernel
theorem dX3_into_18 : decode cX3_into 18 = .ok (.bipush (-11), 2) := by decide +kernel
theorem dX3_into_20 : decode cX3_into 20 = .ok (.ireturn, 1) := by decide +kernel
theorem dX3_into_21 : decode cX3_into 21 = .ok (.aload_n 0, 1) := by decide +kernel
theorem dX3_into_22 : decode cX3_into 22 = .ok (.iload_n 1, 1) := by decide +kernel
theorem dX3_into_23 : decode cX3_into 23 = .ok (.invokevirtual 44, 3) := by decide +kernel
theorem dX3_into_26 : decode cX3_into 26 = .ok (.ifCond .ne 33, 3) := by decide +kernel
theorem dX3_into_29 : decode cX3_into 29 = .ok (.aload_n 0, 1) := by decide +kernel
theorem dX3_into_30 : decode cX3_into 30 = .ok (.iload_n 2, 1) := by decide +kernel
theorem dX3_into_31 : decode cX3_into 31 = .ok (.invokevirtual 47, 3) := by decide +kernel
theorem dX3_into_34 : decode cX3_into 34 = .ok (.ifCond .ne 25, 3) := by decide +kernel
theorem dX3_into_37 : decode cX3_into 37 = .ok (.aload_n 0, 1) := by decide +kernel
theorem dX3_into_38 : decode cX3_into 38 = .ok (.iload_n 2, 1) := by decide +kernel
theorem dX3_into_39 : decode cX3_into 39 = .ok (.aload_n 3, 1) := by decide +kernel
theorem dX3_into_40 : decode cX3_into 40 = .ok (.invokevirtual 51, 3) := by decide +kernel
theorem dX3_into_43 : decode cX3_into 43 = .ok (.ifCond .eq 16, 3) := by decide +kernel
theorem dX3_into_46 : decode cX3_into 46 = .ok (.aload_n 0, 1) := by decide +kernel
theorem dX3_into_47 : decode cX3_into 47 = .ok (.iload_n 2, 1) := by decide +kernel
theorem dX3_into_48 : decode cX3_into 48 = .ok (.invokevirtual 55, 3) := by decide +kernel
theorem dX3_into_51 : decode cX3_into 51 = .ok (.aload_n 0, 1) := by decide +kernel
theorem dX3_into_52 : decode cX3_into 52 = .ok (.iload_n 1, 1) := by decide +kernel
theorem dX3_into_53 : decode cX3_into 53 = .ok (.invokevirtual 55, 3) := by decide +kernel
theorem dX3_into_56 : decode cX3_into 56 = .ok (.if_icmp .eq 6, 3) := by decide +kernel
theorem dX3_into_59 : decode cX3_into 59 = .ok (.bipush (-13), 2) := by decide +kernel
theorem dX3_into_61 : decode cX3_into 61 = .ok (.ireturn, 1) := by decide +kernel
theorem dX3_into_62 : decode cX3_into 62 = .ok (.aload_n 3, 1) := by decide +kernel
theorem dX3_into_63 : decode cX3_into 63 = .ok (.getfield 58, 3) := by decide +kernel
theorem dX3_into_66 : decode cX3_into 66 = .ok (.invokevirtual 62, 3) := by decide +kernel
theorem dX3_into_69 : decode cX3_into 69 = .ok (.ifCond .eq 6, 3) := by decide +kernel
theorem dX3_into_72 : decode cX3_into 72 = .ok (.bipush (-14), 2) := by decide +kernel
theorem dX3_into_74 : decode cX3_into 74 = .ok (.ireturn, 1) := by decide +kernel
theorem dX3_into_75 : decode cX3_into 75 = .ok (.aload_n 0, 1) := by decide +kernel
theorem dX3_into_76 : decode cX3_into 76 = .ok (.aload_n 3, 1) := by decide +kernel
theorem dX3_into_77 : decode cX3_into 77 = .ok (.iload_n 1, 1) := by decide +kernel
theorem dX3_into_78 : decode cX3_into 78 = .ok (.iload_n 2, 1) := by decide +kernel
theorem dX3_into_79 : decode cX3_into 79 = .ok (.invokevirtual 68, 3) := by decide +kernel
theorem dX3_into_82 : decode cX3_into 82 = .ok (.iconst 1, 1) := by decide +kernel
theorem dX3_into_83 : decode cX3_into 83 = .ok (.ireturn, 1) := by decide +kernel
theorem dX3_take_0 : decode cX3_take 0 = .ok (.aload_n 0, 1) := by decide +kernel
theorem dX3_take_1 : decode cX3_take 1 = .ok (.iload_n 1, 1) := by decide +kernel
theorem dX3_take_2 : decode cX3_take 2 = .ok (.invokevirtual 40, 3) := by decide +kernel
theorem dX3_take_5 : decode cX3_take 5 = .ok (.ifCond .ne 6, 3) := by decide +kernel
theorem dX3_take_8 : decode cX3_take 8 = .ok (.bipush (-11), 2) := by decide +kernel
theorem dX3_take_10 : decode cX3_take 10 = .ok (.ireturn, 1) := by decide +kernel
theorem dX3_take_11 : decode cX3_take 11 = .ok (.aload_n 0, 1) := by decide +kernel
theorem dX3_take_12 : decode cX3_take 12 = .ok (.iload_n 1, 1) := by decide +kernel
theorem dX3_take_13 : decode cX3_take 13 = .ok (.invokevirtual 47, 3) := by decide +kernel
theorem dX3_take_16 : decode cX3_take 16 = .ok (.istore_n 2, 1) := by decide +kernel
theorem dX3_take_17 : decode cX3_take 17 = .ok (.iload_n 2, 1) := by decide +kernel
theorem dX3_take_18 : decode cX3_take 18 = .ok (.ifCond .eq 11, 3) := by decide +kernel
theorem dX3_take_21 : decode cX3_take 21 = .ok (.aload_n 0, 1) := by decide +kernel
theorem dX3_take_22 : decode cX3_take 22 = .ok (.iload_n 2, 1) := by decide +kernel
theorem dX3_take_23 : decode cX3_take 23 = .ok (.invokevirtual 44, 3) := by decide +kernel
theorem dX3_take_26 : decode cX3_take 26 = .ok (.ifCond .eq 6, 3) := by decide +kernel
theorem dX3_take_29 : decode cX3_take 29 = .ok (.bipush (-13), 2) := by decide +kernel
theorem dX3_take_31 : decode cX3_take 31 = .ok (.ireturn, 1) := by decide +kernel
theorem dX3_take_32 : decode cX3_take 32 = .ok (.aload_n 0, 1) := by decide +kernel
theorem dX3_take_33 : decode cX3_take 33 = .ok (.iload_n 1, 1) := by decide +kernel
theorem dX3_take_34 : decode cX3_take 34 = .ok (.invokevirtual 72, 3) := by decide +kernel
theorem dX3_take_37 : decode cX3_take 37 = .ok (.iload_n 2, 1) := by decide +kernel
theorem dX3_take_38 : decode cX3_take 38 = .ok (.ireturn, 1) := by decide +kernel
theorem dX3_close_0 : decode cX3_close 0 = .ok (.aload_n 0, 1) := by decide +kernel
theorem dX3_close_1 : decode cX3_close 1 = .ok (.iload_n 1, 1) := by decide +kernel
theorem dX3_close_2 : decode cX3_close 2 = .ok (.invokevirtual 36, 3) := by decide +kernel
theorem dX3_close_5 : decode cX3_close 5 = .ok (.astore 5, 2) := by decide +kernel
theorem dX3_close_7 : decode cX3_close 7 = .ok (.aload 5, 2) := by decide +kernel
theorem dX3_close_9 : decode cX3_close 9 = .ok (.ifnonnull 6, 3) := by decide +kernel
theorem dX3_close_12 : decode cX3_close 12 = .ok (.bipush (-11), 2) := by decide +kernel
theorem dX3_close_14 : decode cX3_close 14 = .ok (.ireturn, 1) := by decide +kernel
theorem dX3_close_15 : decode cX3_close 15 = .ok (.lload_n 2, 1) := by decide +kernel
theorem dX3_close_16 : decode cX3_close 16 = .ok (.invokestatic 75, 3) := by decide +kernel
theorem dX3_close_19 : decode cX3_close 19 = .ok (.ifCond .eq 11, 3) := by decide +kernel
theorem dX3_close_22 : decode cX3_close 22 = .ok (.iload 4, 2) := by decide +kernel
theorem dX3_close_24 : decode cX3_close 24 = .ok (.invokestatic 79, 3) := by decide +kernel
theorem dX3_close_27 : decode cX3_close 27 = .ok (.ifCond .ne 6, 3) := by decide +kernel
theorem dX3_close_30 : decode cX3_close 30 = .ok (.bipush (-12), 2) := by decide +kernel
theorem dX3_close_32 : decode cX3_close 32 = .ok (.ireturn, 1) := by decide +kernel
theorem dX3_close_33 : decode cX3_close 33 = .ok (.aload_n 0, 1) := by decide +kernel
theorem dX3_close_34 : decode cX3_close 34 = .ok (.iload_n 1, 1) := by decide +kernel
theorem dX3_close_35 : decode cX3_close 35 = .ok (.invokevirtual 44, 3) := by decide +kernel
theorem dX3_close_38 : decode cX3_close 38 = .ok (.ifCond .eq 6, 3) := by decide +kernel
theorem dX3_close_41 : decode cX3_close 41 = .ok (.bipush (-13), 2) := by decide +kernel
theorem dX3_close_43 : decode cX3_close 43 = .ok (.ireturn, 1) := by decide +kernel
theorem dX3_close_44 : decode cX3_close 44 = .ok (.aload 5, 2) := by decide +kernel
theorem dX3_close_46 : decode cX3_close 46 = .ok (.lload_n 2, 1) := by decide +kernel
theorem dX3_close_47 : decode cX3_close 47 = .ok (.iload 4, 2) := by decide +kernel
theorem dX3_close_49 : decode cX3_close 49 = .ok (.invokevirtual 82, 3) := by decide +kernel
theorem dX3_close_52 : decode cX3_close 52 = .ok (.aload 5, 2) := by decide +kernel
theorem dX3_close_54 : decode cX3_close 54 = .ok (.getfield 86, 3) := by decide +kernel
theorem dX3_close_57 : decode cX3_close 57 = .ok (.invokevirtual 89, 3) := by decide +kernel
theorem dX3_close_60 : decode cX3_close 60 = .ok (.ireturn, 1) := by decide +kernel
theorem dX3_open_0 : decode cX3_open 0 = .ok (.aload_n 0, 1) := by decide +kernel
theorem dX3_open_1 : decode cX3_open 1 = .ok (.iload_n 1, 1) := by decide +kernel
theorem dX3_open_2 : decode cX3_open 2 = .ok (.invokevirtual 36, 3) := by decide +kernel
theorem dX3_open_5 : decode cX3_open 5 = .ok (.astore 6, 2) := by decide +kernel
theorem dX3_open_7 : decode cX3_open 7 = .ok (.aload 6, 2) := by decide +kernel
theorem dX3_open_9 : decode cX3_open 9 = .ok (.ifnonnull 6, 3) := by decide +kernel
theorem dX3_open_12 : decode cX3_open 12 = .ok (.bipush (-11), 2) := by decide +kernel
theorem dX3_open_14 : decode cX3_open 14 = .ok (.ireturn, 1) := by decide +kernel
theorem dX3_open_15 : decode cX3_open 15 = .ok (.lload_n 2, 1) := by decide +kernel
theorem dX3_open_16 : decode cX3_open 16 = .ok (.invokestatic 75, 3) := by decide +kernel
theorem dX3_open_19 : decode cX3_open 19 = .ok (.ifCond .eq 25, 3) := by decide +kernel
theorem dX3_open_22 : decode cX3_open 22 = .ok (.iload 4, 2) := by decide +kernel
theorem dX3_open_24 : decode cX3_open 24 = .ok (.invokestatic 79, 3) := by decide +kernel
theorem dX3_open_27 : decode cX3_open 27 = .ok (.ifCond .eq 17, 3) := by decide +kernel
theorem dX3_open_30 : decode cX3_open 30 = .ok (.iload 5, 2) := by decide +kernel
theorem dX3_open_32 : decode cX3_open 32 = .ok (.iconst (-1), 1) := by decide +kernel
theorem dX3_open_33 : decode cX3_open 33 = .ok (.if_icmp .eq 14, 3) := by decide +kernel
theorem dX3_open_36 : decode cX3_open 36 = .ok (.iload 5, 2) := by decide +kernel
theorem dX3_open_38 : decode cX3_open 38 = .ok (.invokestatic 79, 3) := by decide +kernel
theorem dX3_open_41 : decode cX3_open 41 = .ok (.ifCond .ne 6, 3) := by decide +kernel
theorem dX3_open_44 : decode cX3_open 44 = .ok (.bipush (-12), 2) := by decide +kernel
theorem dX3_open_46 : decode cX3_open 46 = .ok (.ireturn, 1) := by decide +kernel
theorem dX3_open_47 : decode cX3_open 47 = .ok (.aload 6, 2) := by decide +kernel
theorem dX3_open_49 : decode cX3_open 49 = .ok (.getfield 93, 3) := by decide +kernel
theorem dX3_open_52 : decode cX3_open 52 = .ok (.ifCond .eq 27, 3) := by decide +kernel
theorem dX3_open_55 : decode cX3_open 55 = .ok (.aload_n 0, 1) := by decide +kernel
theorem dX3_open_56 : decode cX3_open 56 = .ok (.aload_n 0, 1) := by decide +kernel
theorem dX3_open_57 : decode cX3_open 57 = .ok (.iload_n 1, 1) := by decide +kernel
theorem dX3_open_58 : decode cX3_open 58 = .ok (.invokevirtual 47, 3) := by decide +kernel
theorem dX3_open_61 : decode cX3_open 61 = .ok (.invokevirtual 44, 3) := by decide +kernel
theorem dX3_open_64 : decode cX3_open 64 = .ok (.ifCond .ne 15, 3) := by decide +kernel
theorem dX3_open_67 : decode cX3_open 67 = .ok (.aload 6, 2) := by decide +kernel
theorem dX3_open_69 : decode cX3_open 69 = .ok (.iload 4, 2) := by decide +kernel
theorem dX3_open_71 : decode cX3_open 71 = .ok (.iload 5, 2) := by decide +kernel
theorem dX3_open_73 : decode cX3_open 73 = .ok (.invokevirtual 97, 3) := by decide +kernel
theorem dX3_open_76 : decode cX3_open 76 = .ok (.ifCond .ne 6, 3) := by decide +kernel
theorem dX3_open_79 : decode cX3_open 79 = .ok (.bipush (-13), 2) := by decide +kernel
theorem dX3_open_81 : decode cX3_open 81 = .ok (.ireturn, 1) := by decide +kernel
theorem dX3_open_82 : decode cX3_open 82 = .ok (.aload 6, 2) := by decide +kernel
theorem dX3_open_84 : decode cX3_open 84 = .ok (.lload_n 2, 1) := by decide +kernel
theorem dX3_open_85 : decode cX3_open 85 = .ok (.invokevirtual 101, 3) := by decide +kernel
theorem dX3_open_88 : decode cX3_open 88 = .ok (.ifCond .eq 5, 3) := by decide +kernel
theorem dX3_open_91 : decode cX3_open 91 = .ok (.iconst 1, 1) := by decide +kernel
theorem dX3_open_92 : decode cX3_open 92 = .ok (.ireturn, 1) := by decide +kernel
theorem dX3_open_93 : decode cX3_open 93 = .ok (.aload_n 0, 1) := by decide +kernel
theorem dX3_open_94 : decode cX3_open 94 = .ok (.getfield 25, 3) := by decide +kernel
theorem dX3_open_97 : decode cX3_open 97 = .ok (.aload_n 0, 1) := by decide +kernel
theorem dX3_open_98 : decode cX3_open 98 = .ok (.getfield 104, 3) := by decide +kernel
theorem dX3_open_101 : decode cX3_open 101 = .ok (.ldc2_w 108, 3) := by decide +kernel
theorem dX3_open_104 : decode cX3_open 104 = .ok (.ladd, 1) := by decide +kernel
theorem dX3_open_105 : decode cX3_open 105 = .ok (.invokevirtual 110, 3) := by decide +kernel
theorem dX3_open_108 : decode cX3_open 108 = .ok (.iconst (-1), 1) := by decide +kernel
theorem dX3_open_109 : decode cX3_open 109 = .ok (.ireturn, 1) := by decide +kernel
theorem dX3_found_0 : decode cX3_found 0 = .ok (.aload_n 0, 1) := by decide +kernel
theorem dX3_found_1 : decode cX3_found 1 = .ok (.iload_n 1, 1) := by decide +kernel
theorem dX3_found_2 : decode cX3_found 2 = .ok (.invokevirtual 36, 3) := by decide +kernel
theorem dX3_found_5 : decode cX3_found 5 = .ok (.astore_n 3, 1) := by decide +kernel
theorem dX3_found_6 : decode cX3_found 6 = .ok (.aload_n 3, 1) := by decide +kernel
theorem dX3_found_7 : decode cX3_found 7 = .ok (.ifnull 11, 3) := by decide +kernel
theorem dX3_found_10 : decode cX3_found 10 = .ok (.aload_n 0, 1) := by decide +kernel
theorem dX3_found_11 : decode cX3_found 11 = .ok (.iload_n 2, 1) := by decide +kernel
theorem dX3_found_12 : decode cX3_found 12 = .ok (.invokevirtual 40, 3) := by decide +kernel
theorem dX3_found_15 : decode cX3_found 15 = .ok (.ifCond .ne 6, 3) := by decide +kernel
theorem dX3_found_18 : decode cX3_found 18 = .ok (.bipush (-11), 2) := by decide +kernel
theorem dX3_found_20 : decode cX3_found 20 = .ok (.ireturn, 1) := by decide +kernel
theorem dX3_found_21 : decode cX3_found 21 = .ok (.aload_n 3, 1) := by decide +kernel
theorem dX3_found_22 : decode cX3_found 22 = .ok (.invokevirtual 114, 3) := by decide +kernel
theorem dX3_found_25 : decode cX3_found 25 = .ok (.ifCond .eq 12, 3) := by decide +kernel
theorem dX3_found_28 : decode cX3_found 28 = .ok (.aload_n 0, 1) := by decide +kernel
theorem dX3_found_29 : decode cX3_found 29 = .ok (.iload_n 2, 1) := by decide +kernel
theorem dX3_found_30 : decode cX3_found 30 = .ok (.aload_n 3, 1) := by decide +kernel
theorem dX3_found_31 : decode cX3_found 31 = .ok (.invokevirtual 51, 3) := by decide +kernel
theorem dX3_found_34 : decode cX3_found 34 = .ok (.ifCond .ne 6, 3) := by decide +kernel
theorem dX3_found_37 : decode cX3_found 37 = .ok (.bipush (-13), 2) := by decide +kernel
theorem dX3_found_39 : decode cX3_found 39 = .ok (.ireturn, 1) := by decide +kernel
theorem dX3_found_40 : decode cX3_found 40 = .ok (.aload_n 3, 1) := by decide +kernel
theorem dX3_found_41 : decode cX3_found 41 = .ok (.getfield 86, 3) := by decide +kernel
theorem dX3_found_44 : decode cX3_found 44 = .ok (.iload_n 2, 1) := by decide +kernel
theorem dX3_found_45 : decode cX3_found 45 = .ok (.invokevirtual 117, 3) := by decide +kernel
theorem dX3_found_48 : decode cX3_found 48 = .ok (.ifCond .eq 13, 3) := by decide +kernel
theorem dX3_found_51 : decode cX3_found 51 = .ok (.aload_n 3, 1) := by decide +kernel
theorem dX3_found_52 : decode cX3_found 52 = .ok (.getfield 120, 3) := by decide +kernel
theorem dX3_found_55 : decode cX3_found 55 = .ok (.iload_n 2, 1) := by decide +kernel
theorem dX3_found_56 : decode cX3_found 56 = .ok (.invokevirtual 123, 3) := by decide +kernel
theorem dX3_found_59 : decode cX3_found 59 = .ok (.iconst 1, 1) := by decide +kernel
theorem dX3_found_60 : decode cX3_found 60 = .ok (.ireturn, 1) := by decide +kernel
theorem dX3_found_61 : decode cX3_found 61 = .ok (.aload_n 3, 1) := by decide +kernel
theorem dX3_found_62 : decode cX3_found 62 = .ok (.getfield 126, 3) := by decide +kernel
theorem dX3_found_65 : decode cX3_found 65 = .ok (.iload_n 2, 1) := by decide +kernel
theorem dX3_found_66 : decode cX3_found 66 = .ok (.invokevirtual 117, 3) := by decide +kernel
theorem dX3_found_69 : decode cX3_found 69 = .ok (.ifCond .eq 5, 3) := by decide +kernel
theorem dX3_found_72 : decode cX3_found 72 = .ok (.iconst 0, 1) := by decide +kernel
theorem dX3_found_73 : decode cX3_found 73 = .ok (.ireturn, 1) := by decide +kernel
theorem dX3_found_74 : decode cX3_found 74 = .ok (.aload_n 0, 1) := by decide +kernel
theorem dX3_found_75 : decode cX3_found 75 = .ok (.aload_n 3, 1) := by decide +kernel
theorem dX3_found_76 : decode cX3_found 76 = .ok (.iload_n 1, 1) := by decide +kernel
theorem dX3_found_77 : decode cX3_found 77 = .ok (.iload_n 2, 1) := by decide +kernel
theorem dX3_found_78 : decode cX3_found 78 = .ok (.invokevirtual 129, 3) := by decide +kernel
theorem dX3_found_81 : decode cX3_found 81 = .ok (.ireturn, 1) := by decide +kernel
theorem dX3_differ_0 : decode cX3_differ 0 = .ok (.aload_n 0, 1) := by decide +kernel
theorem dX3_differ_1 : decode cX3_differ 1 = .ok (.iload_n 1, 1) := by decide +kernel
theorem dX3_differ_2 : decode cX3_differ 2 = .ok (.invokevirtual 36, 3) := by decide +kernel
theorem dX3_differ_5 : decode cX3_differ 5 = .ok (.astore 4, 2) := by decide +kernel
theorem dX3_differ_7 : decode cX3_differ 7 = .ok (.aload 4, 2) := by decide +kernel
theorem dX3_differ_9 : decode cX3_differ 9 = .ok (.ifnonnull 6, 3) := by decide +kernel
theorem dX3_differ_12 : decode cX3_differ 12 = .ok (.bipush (-11), 2) := by decide +kernel
theorem dX3_differ_14 : decode cX3_differ 14 = .ok (.ireturn, 1) := by decide +kernel
theorem dX3_differ_15 : decode cX3_differ 15 = .ok (.iload_n 3, 1) := by decide +kernel
theorem dX3_differ_16 : decode cX3_differ 16 = .ok (.ifCond .eq 11, 3) := by decide +kernel
theorem dX3_differ_19 : decode cX3_differ 19 = .ok (.iload_n 3, 1) := by decide +kernel
theorem dX3_differ_20 : decode cX3_differ 20 = .ok (.iconst 1, 1) := by decide +kernel
theorem dX3_differ_21 : decode cX3_differ 21 = .ok (.if_icmp .eq 6, 3) := by decide +kernel
theorem dX3_differ_24 : decode cX3_differ 24 = .ok (.bipush (-12), 2) := by decide +kernel
theorem dX3_differ_26 : decode cX3_differ 26 = .ok (.ireturn, 1) := by decide +kernel
theorem dX3_differ_27 : decode cX3_differ 27 = .ok (.aload 4, 2) := by decide +kernel
theorem dX3_differ_29 : decode cX3_differ 29 = .ok (.invokevirtual 114, 3) := by decide +kernel
theorem dX3_differ_32 : decode cX3_differ 32 = .ok (.ifCond .ne 6, 3) := by decide +kernel
theorem dX3_differ_35 : decode cX3_differ 35 = .ok (.bipush (-13), 2) := by decide +kernel
theorem dX3_differ_37 : decode cX3_differ 37 = .ok (.ireturn, 1) := by decide +kernel
theorem dX3_differ_38 : decode cX3_differ 38 = .ok (.iload_n 2, 1) := by decide +kernel
theorem dX3_differ_39 : decode cX3_differ 39 = .ok (.istore 5, 2) := by decide +kernel
theorem dX3_differ_41 : decode cX3_differ 41 = .ok (.iconst 0, 1) := by decide +kernel
theorem dX3_differ_42 : decode cX3_differ 42 = .ok (.istore 6, 2) := by decide +kernel
theorem dX3_differ_44 : decode cX3_differ 44 = .ok (.iload 6, 2) := by decide +kernel
theorem dX3_differ_46 : decode cX3_differ 46 = .ok (.iconst 3, 1) := by decide +kernel
theorem dX3_differ_47 : decode cX3_differ 47 = .ok (.if_icmp .gt 60, 3) := by decide +kernel
theorem dX3_differ_50 : decode cX3_differ 50 = .ok (.iload 5, 2) := by decide +kernel
theorem dX3_differ_52 : decode cX3_differ 52 = .ok (.ifCond .lt 55, 3) := by decide +kernel
theorem dX3_differ_55 : decode cX3_differ 55 = .ok (.aload 4, 2) := by decide +kernel
theorem dX3_differ_57 : decode cX3_differ 57 = .ok (.iload 6, 2) := by decide +kernel
theorem dX3_differ_59 : decode cX3_differ 59 = .ok (.invokevirtual 133, 3) := by decide +kernel
theorem dX3_differ_62 : decode cX3_differ 62 = .ok (.astore 7, 2) := by decide +kernel
theorem dX3_differ_64 : decode cX3_differ 64 = .ok (.iload 5, 2) := by decide +kernel
theorem dX3_differ_66 : decode cX3_differ 66 = .ok (.aload 7, 2) := by decide +kernel
theorem dX3_differ_68 : decode cX3_differ 68 = .ok (.invokevirtual 89, 3) := by decide +kernel
theorem dX3_differ_71 : decode cX3_differ 71 = .ok (.if_icmp .ge 20, 3) := by decide +kernel
theorem dX3_differ_74 : decode cX3_differ 74 = .ok (.iload_n 3, 1) := by decide +kernel
theorem dX3_differ_75 : decode cX3_differ 75 = .ok (.ifCond .ne 8, 3) := by decide +kernel
theorem dX3_differ_78 : decode cX3_differ 78 = .ok (.iload 6, 2) := by decide +kernel
theorem dX3_differ_80 : decode cX3_differ 80 = .ok (.goto 10, 3) := by decide +kernel
theorem dX3_differ_83 : decode cX3_differ 83 = .ok (.aload 7, 2) := by decide +kernel
theorem dX3_differ_85 : decode cX3_differ 85 = .ok (.iload 5, 2) := by decide +kernel
theorem dX3_differ_87 : decode cX3_differ 87 = .ok (.invokevirtual 137, 3) := by decide +kernel
theorem dX3_differ_90 : decode cX3_differ 90 = .ok (.ireturn, 1) := by decide +kernel
theorem dX3_differ_91 : decode cX3_differ 91 = .ok (.iload 5, 2) := by decide +kernel
theorem dX3_differ_93 : decode cX3_differ 93 = .ok (.aload 7, 2) := by decide +kernel
theorem dX3_differ_95 : decode cX3_differ 95 = .ok (.invokevirtual 89, 3) := by decide +kernel
theorem dX3_differ_98 : decode cX3_differ 98 = .ok (.isub, 1) := by decide +kernel
theorem dX3_differ_99 : decode cX3_differ 99 = .ok (.istore 5, 2) := by decide +kernel
theorem dX3_differ_101 : decode cX3_differ 101 = .ok (.iinc 6 1, 3) := by decide +kernel
theorem dX3_differ_104 : decode cX3_differ 104 = .ok (.goto (-60), 3) := by decide +kernel
theorem dX3_differ_107 : decode cX3_differ 107 = .ok (.iconst (-1), 1) := by decide +kernel
theorem dX3_differ_108 : decode cX3_differ 108 = .ok (.ireturn, 1) := by decide +kernel
theorem dX3_inside_0 : decode cX3_inside 0 = .ok (.aload_n 0, 1) := by decide +kernel
theorem dX3_inside_1 : decode cX3_inside 1 = .ok (.iload_n 1, 1) := by decide +kernel
theorem dX3_inside_2 : decode cX3_inside 2 = .ok (.invokevirtual 40, 3) := by decide +kernel
theorem dX3_inside_5 : decode cX3_inside 5 = .ok (.ifCond .eq 11, 3) := by decide +kernel
theorem dX3_inside_8 : decode cX3_inside 8 = .ok (.aload_n 0, 1) := by decide +kernel
theorem dX3_inside_9 : decode cX3_inside 9 = .ok (.iload_n 1, 1) := by decide +kernel
theorem dX3_inside_10 : decode cX3_inside 10 = .ok (.invokevirtual 47, 3) := by decide +kernel
theorem dX3_inside_13 : decode cX3_inside 13 = .ok (.goto 5, 3) := by decide +kernel
theorem dX3_inside_16 : decode cX3_inside 16 = .ok (.bipush (-11), 2) := by decide +kernel
theorem dX3_inside_18 : decode cX3_inside 18 = .ok (.ireturn, 1) := by decide +kernel
theorem dX3_weight_0 : decode cX3_weight 0 = .ok (.aload_n 0, 1) := by decide +kernel
theorem dX3_weight_1 : decode cX3_weight 1 = .ok (.iload_n 1, 1) := by decide +kernel
theorem dX3_weight_2 : decode cX3_weight 2 = .ok (.invokevirtual 36, 3) := by decide +kernel
theorem dX3_weight_5 : decode cX3_weight 5 = .ok (.astore 4, 2) := by decide +kernel
theorem dX3_weight_7 : decode cX3_weight 7 = .ok (.aload 4, 2) := by decide +kernel
theorem dX3_weight_9 : decode cX3_weight 9 = .ok (.ifnonnull 6, 3) := by decide +kernel
theorem dX3_weight_12 : decode cX3_weight 12 = .ok (.bipush (-11), 2) := by decide +kernel
theorem dX3_weight_14 : decode cX3_weight 14 = .ok (.ireturn, 1) := by decide +kernel
theorem dX3_weight_15 : decode cX3_weight 15 = .ok (.lload_n 2, 1) := by decide +kernel
theorem dX3_weight_16 : decode cX3_weight 16 = .ok (.lconst 0, 1) := by decide +kernel
theorem dX3_weight_17 : decode cX3_weight 17 = .ok (.lcmp, 1) := by decide +kernel
theorem dX3_weight_18 : decode cX3_weight 18 = .ok (.ifCond .lt 11, 3) := by decide +kernel
theorem dX3_weight_21 : decode cX3_weight 21 = .ok (.lload_n 2, 1) := by decide +kernel
theorem dX3_weight_22 : decode cX3_weight 22 = .ok (.ldc2_w 140, 3) := by decide +kernel
theorem dX3_weight_25 : decode cX3_weight 25 = .ok (.lcmp, 1) := by decide +kernel
theorem dX3_weight_26 : decode cX3_weight 26 = .ok (.ifCond .le 6, 3) := by decide +kernel
theorem dX3_weight_29 : decode cX3_weight 29 = .ok (.bipush (-12), 2) := by decide +kernel
theorem dX3_weight_31 : decode cX3_weight 31 = .ok (.ireturn, 1) := by decide +kernel
theorem dX3_weight_32 : decode cX3_weight 32 = .ok (.aload_n 0, 1) := by decide +kernel
theorem dX3_weight_33 : decode cX3_weight 33 = .ok (.iload_n 1, 1) := by decide +kernel
theorem dX3_weight_34 : decode cX3_weight 34 = .ok (.invokevirtual 142, 3) := by decide +kernel
theorem dX3_weight_37 : decode cX3_weight 37 = .ok (.lstore 5, 2) := by decide +kernel
theorem dX3_weight_39 : decode cX3_weight 39 = .ok (.lload_n 2, 1) := by decide +kernel
theorem dX3_weight_40 : decode cX3_weight 40 = .ok (.lload 5, 2) := by decide +kernel
theorem dX3_weight_42 : decode cX3_weight 42 = .ok (.lsub, 1) := by decide +kernel
theorem dX3_weight_43 : decode cX3_weight 43 = .ok (.invokestatic 146, 3) := by decide +kernel
theorem dX3_weight_46 : decode cX3_weight 46 = .ok (.lload 5, 2) := by decide +kernel
theorem dX3_weight_48 : decode cX3_weight 48 = .ok (.ldc2_w 152, 3) := by decide +kernel
theorem dX3_weight_51 : decode cX3_weight 51 = .ok (.ldiv, 1) := by decide +kernel
theorem dX3_weight_52 : decode cX3_weight 52 = .ok (.lcmp, 1) := by decide +kernel
theorem dX3_weight_53 : decode cX3_weight 53 = .ok (.ifCond .gt 5, 3) := by decide +kernel
theorem dX3_weight_56 : decode cX3_weight 56 = .ok (.iconst 1, 1) := by decide +kernel
theorem dX3_weight_57 : decode cX3_weight 57 = .ok (.ireturn, 1) := by decide +kernel
theorem dX3_weight_58 : decode cX3_weight 58 = .ok (.aload 4, 2) := by decide +kernel
theorem dX3_weight_60 : decode cX3_weight 60 = .ok (.getfield 154, 3) := by decide +kernel
theorem dX3_weight_63 : decode cX3_weight 63 = .ok (.lload_n 2, 1) := by decide +kernel
theorem dX3_weight_64 : decode cX3_weight 64 = .ok (.l2i, 1) := by decide +kernel
theorem dX3_weight_65 : decode cX3_weight 65 = .ok (.invokevirtual 157, 3) := by decide +kernel
theorem dX3_weight_68 : decode cX3_weight 68 = .ok (.aload_n 0, 1) := by decide +kernel
theorem dX3_weight_69 : decode cX3_weight 69 = .ok (.getfield 25, 3) := by decide +kernel
theorem dX3_weight_72 : decode cX3_weight 72 = .ok (.aload_n 0, 1) := by decide +kernel
theorem dX3_weight_73 : decode cX3_weight 73 = .ok (.getfield 104, 3) := by decide +kernel
theorem dX3_weight_76 : decode cX3_weight 76 = .ok (.ldc2_w 108, 3) := by decide +kernel
theorem dX3_weight_79 : decode cX3_weight 79 = .ok (.ladd, 1) := by decide +kernel
theorem dX3_weight_80 : decode cX3_weight 80 = .ok (.invokevirtual 110, 3) := by decide +kernel
theorem dX3_weight_83 : decode cX3_weight 83 = .ok (.iconst 0, 1) := by decide +kernel
theorem dX3_weight_84 : decode cX3_weight 84 = .ok (.ireturn, 1) := by decide +kernel
theorem dX3_document_0 : decode cX3_document 0 = .ok (.aload_n 0, 1) := by decide +kernel
theorem dX3_document_1 : decode cX3_document 1 = .ok (.iload_n 1, 1) := by decide +kernel
theorem dX3_document_2 : decode cX3_document 2 = .ok (.invokevirtual 36, 3) := by decide +kernel
theorem dX3_document_5 : decode cX3_document 5 = .ok (.astore_n 3, 1) := by decide +kernel
theorem dX3_document_6 : decode cX3_document 6 = .ok (.aload_n 3, 1) := by decide +kernel
theorem dX3_document_7 : decode cX3_document 7 = .ok (.ifnonnull 8, 3) := by decide +kernel
theorem dX3_document_10 : decode cX3_document 10 = .ok (.bipush (-11), 2) := by decide +kernel
theorem dX3_document_12 : decode cX3_document 12 = .ok (.goto 11, 3) := by decide +kernel
theorem dX3_document_15 : decode cX3_document 15 = .ok (.aload_n 3, 1) := by decide +kernel
theorem dX3_document_16 : decode cX3_document 16 = .ok (.getfield 86, 3) := by decide +kernel
theorem dX3_document_19 : decode cX3_document 19 = .ok (.iload_n 2, 1) := by decide +kernel
theorem dX3_document_20 : decode cX3_document 20 = .ok (.invokevirtual 137, 3) := by decide +kernel
theorem dX3_document_23 : decode cX3_document 23 = .ok (.ireturn, 1) := by decide +kernel
theorem dX3_move_0 : decode cX3_move 0 = .ok (.aload_n 0, 1) := by decide +kernel
theorem dX3_move_1 : decode cX3_move 1 = .ok (.iload_n 1, 1) := by decide +kernel
theorem dX3_move_2 : decode cX3_move 2 = .ok (.invokevirtual 36, 3) := by decide +kernel
theorem dX3_move_5 : decode cX3_move 5 = .ok (.astore_n 3, 1) := by decide +kernel
theorem dX3_move_6 : decode cX3_move 6 = .ok (.aload_n 3, 1) := by decide +kernel
theorem dX3_move_7 : decode cX3_move 7 = .ok (.ifnonnull 6, 3) := by decide +kernel
theorem dX3_move_10 : decode cX3_move 10 = .ok (.bipush (-11), 2) := by decide +kernel
theorem dX3_move_12 : decode cX3_move 12 = .ok (.ireturn, 1) := by decide +kernel
theorem dX3_move_13 : decode cX3_move 13 = .ok (.iload_n 2, 1) := by decide +kernel
theorem dX3_move_14 : decode cX3_move 14 = .ok (.ifCond .lt 9, 3) := by decide +kernel
theorem dX3_move_17 : decode cX3_move 17 = .ok (.iload_n 2, 1) := by decide +kernel
theorem dX3_move_18 : decode cX3_move 18 = .ok (.bipush 9, 2) := by decide +kernel
theorem dX3_move_20 : decode cX3_move 20 = .ok (.if_icmp .le 6, 3) := by decide +kernel
theorem dX3_move_23 : decode cX3_move 23 = .ok (.bipush (-12), 2) := by decide +kernel
theorem dX3_move_25 : decode cX3_move 25 = .ok (.ireturn, 1) := by decide +kernel
theorem dX3_move_26 : decode cX3_move 26 = .ok (.aload_n 3, 1) := by decide +kernel
theorem dX3_move_27 : decode cX3_move 27 = .ok (.getfield 93, 3) := by decide +kernel
theorem dX3_move_30 : decode cX3_move 30 = .ok (.ifCond .eq 11, 3) := by decide +kernel
theorem dX3_move_33 : decode cX3_move 33 = .ok (.aload_n 0, 1) := by decide +kernel
theorem dX3_move_34 : decode cX3_move 34 = .ok (.iload_n 1, 1) := by decide +kernel
theorem dX3_move_35 : decode cX3_move 35 = .ok (.invokevirtual 47, 3) := by decide +kernel
theorem dX3_move_38 : decode cX3_move 38 = .ok (.ifCond .eq 6, 3) := by decide +kernel
theorem dX3_move_41 : decode cX3_move 41 = .ok (.bipush (-13), 2) := by decide +kernel
theorem dX3_move_43 : decode cX3_move 43 = .ok (.ireturn, 1) := by decide +kernel
theorem dX3_move_44 : decode cX3_move 44 = .ok (.aload_n 0, 1) := by decide +kernel
theorem dX3_move_45 : decode cX3_move 45 = .ok (.iload_n 1, 1) := by decide +kernel
theorem dX3_move_46 : decode cX3_move 46 = .ok (.iload_n 2, 1) := by decide +kernel
theorem dX3_move_47 : decode cX3_move 47 = .ok (.invokevirtual 160, 3) := by decide +kernel
theorem dX3_move_50 : decode cX3_move 50 = .ok (.aload_n 0, 1) := by decide +kernel
theorem dX3_move_51 : decode cX3_move 51 = .ok (.iload_n 1, 1) := by decide +kernel
theorem dX3_move_52 : decode cX3_move 52 = .ok (.invokevirtual 164, 3) := by decide +kernel
theorem dX3_move_55 : decode cX3_move 55 = .ok (.ireturn, 1) := by decide +kernel
theorem dX3_place_0 : decode cX3_place 0 = .ok (.aload_n 0, 1) := by decide +kernel
theorem dX3_place_1 : decode cX3_place 1 = .ok (.iload_n 1, 1) := by decide +kernel
theorem dX3_place_2 : decode cX3_place 2 = .ok (.invokevirtual 40, 3) := by decide +kernel
theorem dX3_place_5 : decode cX3_place 5 = .ok (.ifCond .eq 11, 3) := by decide +kernel
theorem dX3_place_8 : decode cX3_place 8 = .ok (.aload_n 0, 1) := by decide +kernel
theorem dX3_place_9 : decode cX3_place 9 = .ok (.iload_n 1, 1) := by decide +kernel
theorem dX3_place_10 : decode cX3_place 10 = .ok (.invokevirtual 55, 3) := by decide +kernel
theorem dX3_place_13 : decode cX3_place 13 = .ok (.goto 5, 3) := by decide +kernel
theorem dX3_place_16 : decode cX3_place 16 = .ok (.bipush (-11), 2) := by decide +kernel
theorem dX3_place_18 : decode cX3_place 18 = .ok (.ireturn, 1) := by decide +kernel
theorem dX3_tick_0 : decode cX3_tick 0 = .ok (.lload_n 1, 1) := by decide +kernel
theorem dX3_tick_1 : decode cX3_tick 1 = .ok (.aload_n 0, 1) := by decide +kernel
theorem dX3_tick_2 : decode cX3_tick 2 = .ok (.getfield 104, 3) := by decide +kernel
theorem dX3_tick_5 : decode cX3_tick 5 = .ok (.lcmp, 1) := by decide +kernel
theorem dX3_tick_6 : decode cX3_tick 6 = .ok (.ifCond .lt 11, 3) := by decide +kernel
theorem dX3_tick_9 : decode cX3_tick 9 = .ok (.lload_n 1, 1) := by decide +kernel
theorem dX3_tick_10 : decode cX3_tick 10 = .ok (.ldc2_w 167, 3) := by decide +kernel
theorem dX3_tick_13 : decode cX3_tick 13 = .ok (.lcmp, 1) := by decide +kernel
theorem dX3_tick_14 : decode cX3_tick 14 = .ok (.ifCond .le 6, 3) := by decide +kernel
theorem dX3_tick_17 : decode cX3_tick 17 = .ok (.bipush (-12), 2) := by decide +kernel
theorem dX3_tick_19 : decode cX3_tick 19 = .ok (.ireturn, 1) := by decide +kernel
theorem dX3_tick_20 : decode cX3_tick 20 = .ok (.aload_n 0, 1) := by decide +kernel
theorem dX3_tick_21 : decode cX3_tick 21 = .ok (.lload_n 1, 1) := by decide +kernel
theorem dX3_tick_22 : decode cX3_tick 22 = .ok (.putfield 104, 3) := by decide +kernel
theorem dX3_tick_25 : decode cX3_tick 25 = .ok (.aload_n 0, 1) := by decide +kernel
theorem dX3_tick_26 : decode cX3_tick 26 = .ok (.getfield 25, 3) := by decide +kernel
theorem dX3_tick_29 : decode cX3_tick 29 = .ok (.lload_n 1, 1) := by decide +kernel
theorem dX3_tick_30 : decode cX3_tick 30 = .ok (.invokevirtual 169, 3) := by decide +kernel
theorem dX3_tick_33 : decode cX3_tick 33 = .ok (.ireturn, 1) := by decide +kernel
theorem dX3_isSeal_0 : decode cX3_isSeal 0 = .ok (.lload_n 0, 1) := by decide +kernel
theorem dX3_isSeal_1 : decode cX3_isSeal 1 = .ok (.lconst 1, 1) := by decide +kernel
theorem dX3_isSeal_2 : decode cX3_isSeal 2 = .ok (.lcmp, 1) := by decide +kernel
theorem dX3_isSeal_3 : decode cX3_isSeal 3 = .ok (.ifCond .lt 15, 3) := by decide +kernel
theorem dX3_isSeal_6 : decode cX3_isSeal 6 = .ok (.lload_n 0, 1) := by decide +kernel
theorem dX3_isSeal_7 : decode cX3_isSeal 7 = .ok (.ldc2_w 140, 3) := by decide +kernel
theorem dX3_isSeal_10 : decode cX3_isSeal 10 = .ok (.lcmp, 1) := by decide +kernel
theorem dX3_isSeal_11 : decode cX3_isSeal 11 = .ok (.ifCond .gt 7, 3) := by decide +kernel
theorem dX3_isSeal_14 : decode cX3_isSeal 14 = .ok (.iconst 1, 1) := by decide +kernel
theorem dX3_isSeal_15 : decode cX3_isSeal 15 = .ok (.goto 4, 3) := by decide +kernel
theorem dX3_isSeal_18 : decode cX3_isSeal 18 = .ok (.iconst 0, 1) := by decide +kernel
theorem dX3_isSeal_19 : decode cX3_isSeal 19 = .ok (.ireturn, 1) := by decide +kernel
theorem dX3_isPerson_0 : decode cX3_isPerson 0 = .ok (.iload_n 0, 1) := by decide +kernel
theorem dX3_isPerson_1 : decode cX3_isPerson 1 = .ok (.ifCond .lt 13, 3) := by decide +kernel
theorem dX3_isPerson_4 : decode cX3_isPerson 4 = .ok (.iload_n 0, 1) := by decide +kernel
theorem dX3_isPerson_5 : decode cX3_isPerson 5 = .ok (.bipush 49, 2) := by decide +kernel
theorem dX3_isPerson_7 : decode cX3_isPerson 7 = .ok (.if_icmp .gt 7, 3) := by decide +kernel
theorem dX3_isPerson_10 : decode cX3_isPerson 10 = .ok (.iconst 1, 1) := by decide +kernel
theorem dX3_isPerson_11 : decode cX3_isPerson 11 = .ok (.goto 4, 3) := by decide +kernel
theorem dX3_isPerson_14 : decode cX3_isPerson 14 = .ok (.iconst 0, 1) := by decide +kernel
theorem dX3_isPerson_15 : decode cX3_isPerson 15 = .ok (.ireturn, 1) := by decide +kernel
theorem dX3_isItem_0 : decode cX3_isItem 0 = .ok (.iload_n 0, 1) := by decide +kernel
theorem dX3_isItem_1 : decode cX3_isItem 1 = .ok (.iconst 1, 1) := by decide +kernel
theorem dX3_isItem_2 : decode cX3_isItem 2 = .ok (.if_icmp .lt 14, 3) := by decide +kernel
theorem dX3_isItem_5 : decode cX3_isItem 5 = .ok (.iload_n 0, 1) := by decide +kernel
theorem dX3_isItem_6 : decode cX3_isItem 6 = .ok (.sipush 999, 3) := by decide +kernel
theorem dX3_isItem_9 : decode cX3_isItem 9 = .ok (.if_icmp .gt 7, 3) := by decide +kernel
theorem dX3_isItem_12 : decode cX3_isItem 12 = .ok (.iconst 1, 1) := by decide +kernel
theorem dX3_isItem_13 : decode cX3_isItem 13 = .ok (.goto 4, 3) := by decide +kernel
theorem dX3_isItem_16 : decode cX3_isItem 16 = .ok (.iconst 0, 1) := by decide +kernel
theorem dX3_isItem_17 : decode cX3_isItem 17 = .ok (.ireturn, 1) := by decide +kernel
theorem dX3_isThing_0 : decode cX3_isThing 0 = .ok (.iload_n 1, 1) := by decide +kernel
theorem dX3_isThing_1 : decode cX3_isThing 1 = .ok (.invokestatic 173, 3) := by decide +kernel
theorem dX3_isThing_4 : decode cX3_isThing 4 = .ok (.ifCond .ne 11, 3) := by decide +kernel
theorem dX3_isThing_7 : decode cX3_isThing 7 = .ok (.aload_n 0, 1) := by decide +kernel
theorem dX3_isThing_8 : decode cX3_isThing 8 = .ok (.iload_n 1, 1) := by decide +kernel
theorem dX3_isThing_9 : decode cX3_isThing 9 = .ok (.invokevirtual 36, 3) := by decide +kernel
theorem dX3_isThing_12 : decode cX3_isThing 12 = .ok (.ifnull 7, 3) := by decide +kernel
theorem dX3_isThing_15 : decode cX3_isThing 15 = .ok (.iconst 1, 1) := by decide +kernel
theorem dX3_isThing_16 : decode cX3_isThing 16 = .ok (.goto 4, 3) := by decide +kernel
theorem dX3_isThing_19 : decode cX3_isThing 19 = .ok (.iconst 0, 1) := by decide +kernel
theorem dX3_isThing_20 : decode cX3_isThing 20 = .ok (.ireturn, 1) := by decide +kernel
theorem dX3_receptacleOf_0 : decode cX3_receptacleOf 0 = .ok (.iload_n 1, 1) := by decide +kernel
theorem dX3_receptacleOf_1 : decode cX3_receptacleOf 1 = .ok (.sipush 1000, 3) := by decide +kernel
theorem dX3_receptacleOf_4 : decode cX3_receptacleOf 4 = .ok (.if_icmp .gt 5, 3) := by decide +kernel
theorem dX3_receptacleOf_7 : decode cX3_receptacleOf 7 = .ok (.aconst_null, 1) := by decide +kernel
theorem dX3_receptacleOf_8 : decode cX3_receptacleOf 8 = .ok (.areturn, 1) := by decide +kernel
theorem dX3_receptacleOf_9 : decode cX3_receptacleOf 9 = .ok (.iload_n 1, 1) := by decide +kernel
theorem dX3_receptacleOf_10 : decode cX3_receptacleOf 10 = .ok (.sipush 1000, 3) := by decide +kernel
theorem dX3_receptacleOf_13 : decode cX3_receptacleOf 13 = .ok (.isub, 1) := by decide +kernel
theorem dX3_receptacleOf_14 : decode cX3_receptacleOf 14 = .ok (.iconst 1, 1) := by decide +kernel
theorem dX3_receptacleOf_15 : decode cX3_receptacleOf 15 = .ok (.isub, 1) := by decide +kernel
theorem dX3_receptacleOf_16 : decode cX3_receptacleOf 16 = .ok (.istore_n 2, 1) := by decide +kernel
theorem dX3_receptacleOf_17 : decode cX3_receptacleOf 17 = .ok (.iload_n 2, 1) := by decide +kernel
theorem dX3_receptacleOf_18 : decode cX3_receptacleOf 18 = .ok (.aload_n 0, 1) := by decide +kernel
theorem dX3_receptacleOf_19 : decode cX3_receptacleOf 19 = .ok (.getfield 11, 3) := by decide +kernel
theorem dX3_receptacleOf_22 : decode cX3_receptacleOf 22 = .ok (.arraylength, 1) := by decide +kernel
theorem dX3_receptacleOf_23 : decode cX3_receptacleOf 23 = .ok (.if_icmp .ge 12, 3) := by decide +kernel
theorem dX3_receptacleOf_26 : decode cX3_receptacleOf 26 = .ok (.aload_n 0, 1) := by decide +kernel
theorem dX3_receptacleOf_27 : decode cX3_receptacleOf 27 = .ok (.getfield 11, 3) := by decide +kernel
theorem dX3_receptacleOf_30 : decode cX3_receptacleOf 30 = .ok (.iload_n 2, 1) := by decide +kernel
theorem dX3_receptacleOf_31 : decode cX3_receptacleOf 31 = .ok (.aaload, 1) := by decide +kernel
theorem dX3_receptacleOf_32 : decode cX3_receptacleOf 32 = .ok (.goto 4, 3) := by decide +kernel
theorem dX3_receptacleOf_35 : decode cX3_receptacleOf 35 = .ok (.aconst_null, 1) := by decide +kernel
theorem dX3_receptacleOf_36 : decode cX3_receptacleOf 36 = .ok (.areturn, 1) := by decide +kernel
theorem dX3_holderOf_0 : decode cX3_holderOf 0 = .ok (.iload_n 1, 1) := by decide +kernel
theorem dX3_holderOf_1 : decode cX3_holderOf 1 = .ok (.ifCond .lt 21, 3) := by decide +kernel
theorem dX3_holderOf_4 : decode cX3_holderOf 4 = .ok (.iload_n 1, 1) := by decide +kernel
theorem dX3_holderOf_5 : decode cX3_holderOf 5 = .ok (.aload_n 0, 1) := by decide +kernel
theorem dX3_holderOf_6 : decode cX3_holderOf 6 = .ok (.getfield 15, 3) := by decide +kernel
theorem dX3_holderOf_9 : decode cX3_holderOf 9 = .ok (.arraylength, 1) := by decide +kernel
theorem dX3_holderOf_10 : decode cX3_holderOf 10 = .ok (.if_icmp .ge 12, 3) := by decide +kernel
theorem dX3_holderOf_13 : decode cX3_holderOf 13 = .ok (.aload_n 0, 1) := by decide +kernel
theorem dX3_holderOf_14 : decode cX3_holderOf 14 = .ok (.getfield 15, 3) := by decide +kernel
theorem dX3_holderOf_17 : decode cX3_holderOf 17 = .ok (.iload_n 1, 1) := by decide +kernel
theorem dX3_holderOf_18 : decode cX3_holderOf 18 = .ok (.iaload, 1) := by decide +kernel
theorem dX3_holderOf_19 : decode cX3_holderOf 19 = .ok (.goto 4, 3) := by decide +kernel
theorem dX3_holderOf_22 : decode cX3_holderOf 22 = .ok (.iconst 0, 1) := by decide +kernel
theorem dX3_holderOf_23 : decode cX3_holderOf 23 = .ok (.ireturn, 1) := by decide +kernel
theorem dX3_setHolder_0 : decode cX3_setHolder 0 = .ok (.iload_n 1, 1) := by decide +kernel
theorem dX3_setHolder_1 : decode cX3_setHolder 1 = .ok (.ifCond .lt 19, 3) := by decide +kernel
theorem dX3_setHolder_4 : decode cX3_setHolder 4 = .ok (.iload_n 1, 1) := by decide +kernel
theorem dX3_setHolder_5 : decode cX3_setHolder 5 = .ok (.aload_n 0, 1) := by decide +kernel
theorem dX3_setHolder_6 : decode cX3_setHolder 6 = .ok (.getfield 15, 3) := by decide +kernel
theorem dX3_setHolder_9 : decode cX3_setHolder 9 = .ok (.arraylength, 1) := by decide +kernel
theorem dX3_setHolder_10 : decode cX3_setHolder 10 = .ok (.if_icmp .ge 10, 3) := by decide +kernel
theorem dX3_setHolder_13 : decode cX3_setHolder 13 = .ok (.aload_n 0, 1) := by decide +kernel
theorem dX3_setHolder_14 : decode cX3_setHolder 14 = .ok (.getfield 15, 3) := by decide +kernel
theorem dX3_setHolder_17 : decode cX3_setHolder 17 = .ok (.iload_n 1, 1) := by decide +kernel
theorem dX3_setHolder_18 : decode cX3_setHolder 18 = .ok (.iload_n 2, 1) := by decide +kernel
theorem dX3_setHolder_19 : decode cX3_setHolder 19 = .ok (.iastore, 1) := by decide +kernel
theorem dX3_setHolder_20 : decode cX3_setHolder 20 = .ok (.return_, 1) := by decide +kernel
theorem dX3_setOwnPlace_0 : decode cX3_setOwnPlace 0 = .ok (.iload_n 1, 1) := by decide +kernel
theorem dX3_setOwnPlace_1 : decode cX3_setOwnPlace 1 = .ok (.ifCond .lt 19, 3) := by decide +kernel
theorem dX3_setOwnPlace_4 : decode cX3_setOwnPlace 4 = .ok (.iload_n 1, 1) := by decide +kernel
theorem dX3_setOwnPlace_5 : decode cX3_setOwnPlace 5 = .ok (.aload_n 0, 1) := by decide +kernel
theorem dX3_setOwnPlace_6 : decode cX3_setOwnPlace 6 = .ok (.getfield 19, 3) := by decide +kernel
theorem dX3_setOwnPlace_9 : decode cX3_setOwnPlace 9 = .ok (.arraylength, 1) := by decide +kernel
theorem dX3_setOwnPlace_10 : decode cX3_setOwnPlace 10 = .ok (.if_icmp .ge 10, 3) := by decide +kernel
theorem dX3_setOwnPlace_13 : decode cX3_setOwnPlace 13 = .ok (.aload_n 0, 1) := by decide +kernel
theorem dX3_setOwnPlace_14 : decode cX3_setOwnPlace 14 = .ok (.getfield 19, 3) := by decide +kernel
theorem dX3_setOwnPlace_17 : decode cX3_setOwnPlace 17 = .ok (.iload_n 1, 1) := by decide +kernel
theorem dX3_setOwnPlace_18 : decode cX3_setOwnPlace 18 = .ok (.iload_n 2, 1) := by decide +kernel
theorem dX3_setOwnPlace_19 : decode cX3_setOwnPlace 19 = .ok (.iastore, 1) := by decide +kernel
theorem dX3_setOwnPlace_20 : decode cX3_setOwnPlace 20 = .ok (.return_, 1) := by decide +kernel
theorem dX3_placeOf_0 : decode cX3_placeOf 0 = .ok (.iload_n 1, 1) := by decide +kernel
theorem dX3_placeOf_1 : decode cX3_placeOf 1 = .ok (.istore_n 2, 1) := by decide +kernel
theorem dX3_placeOf_2 : decode cX3_placeOf 2 = .ok (.iconst 0, 1) := by decide +kernel
theorem dX3_placeOf_3 : decode cX3_placeOf 3 = .ok (.istore_n 3, 1) := by decide +kernel
theorem dX3_placeOf_4 : decode cX3_placeOf 4 = .ok (.iload_n 3, 1) := by decide +kernel
theorem dX3_placeOf_5 : decode cX3_placeOf 5 = .ok (.bipush 60, 2) := by decide +kernel
theorem dX3_placeOf_7 : decode cX3_placeOf 7 = .ok (.if_icmp .ge 23, 3) := by decide +kernel
theorem dX3_placeOf_10 : decode cX3_placeOf 10 = .ok (.aload_n 0, 1) := by decide +kernel
theorem dX3_placeOf_11 : decode cX3_placeOf 11 = .ok (.iload_n 2, 1) := by decide +kernel
theorem dX3_placeOf_12 : decode cX3_placeOf 12 = .ok (.invokevirtual 47, 3) := by decide +kernel
theorem dX3_placeOf_15 : decode cX3_placeOf 15 = .ok (.ifCond .eq 15, 3) := by decide +kernel
theorem dX3_placeOf_18 : decode cX3_placeOf 18 = .ok (.aload_n 0, 1) := by decide +kernel
theorem dX3_placeOf_19 : decode cX3_placeOf 19 = .ok (.iload_n 2, 1) := by decide +kernel
theorem dX3_placeOf_20 : decode cX3_placeOf 20 = .ok (.invokevirtual 47, 3) := by decide +kernel
theorem dX3_placeOf_23 : decode cX3_placeOf 23 = .ok (.istore_n 2, 1) := by decide +kernel
theorem dX3_placeOf_24 : decode cX3_placeOf 24 = .ok (.iinc 3 1, 3) := by decide +kernel
theorem dX3_placeOf_27 : decode cX3_placeOf 27 = .ok (.goto (-23), 3) := by decide +kernel
theorem dX3_placeOf_30 : decode cX3_placeOf 30 = .ok (.iload_n 2, 1) := by decide +kernel
theorem dX3_placeOf_31 : decode cX3_placeOf 31 = .ok (.ifCond .lt 21, 3) := by decide +kernel
theorem dX3_placeOf_34 : decode cX3_placeOf 34 = .ok (.iload_n 2, 1) := by decide +kernel
theorem dX3_placeOf_35 : decode cX3_placeOf 35 = .ok (.aload_n 0, 1) := by decide +kernel
theorem dX3_placeOf_36 : decode cX3_placeOf 36 = .ok (.getfield 19, 3) := by decide +kernel
theorem dX3_placeOf_39 : decode cX3_placeOf 39 = .ok (.arraylength, 1) := by decide +kernel
theorem dX3_placeOf_40 : decode cX3_placeOf 40 = .ok (.if_icmp .ge 12, 3) := by decide +kernel
theorem dX3_placeOf_43 : decode cX3_placeOf 43 = .ok (.aload_n 0, 1) := by decide +kernel
theorem dX3_placeOf_44 : decode cX3_placeOf 44 = .ok (.getfield 19, 3) := by decide +kernel
theorem dX3_placeOf_47 : decode cX3_placeOf 47 = .ok (.iload_n 2, 1) := by decide +kernel
theorem dX3_placeOf_48 : decode cX3_placeOf 48 = .ok (.iaload, 1) := by decide +kernel
theorem dX3_placeOf_49 : decode cX3_placeOf 49 = .ok (.goto 4, 3) := by decide +kernel
theorem dX3_placeOf_52 : decode cX3_placeOf 52 = .ok (.iconst 0, 1) := by decide +kernel
theorem dX3_placeOf_53 : decode cX3_placeOf 53 = .ok (.ireturn, 1) := by decide +kernel
theorem dX3_isShut_0 : decode cX3_isShut 0 = .ok (.iload_n 1, 1) := by decide +kernel
theorem dX3_isShut_1 : decode cX3_isShut 1 = .ok (.istore_n 2, 1) := by decide +kernel
theorem dX3_isShut_2 : decode cX3_isShut 2 = .ok (.iconst 0, 1) := by decide +kernel
theorem dX3_isShut_3 : decode cX3_isShut 3 = .ok (.istore_n 3, 1) := by decide +kernel
theorem dX3_isShut_4 : decode cX3_isShut 4 = .ok (.iload_n 3, 1) := by decide +kernel
theorem dX3_isShut_5 : decode cX3_isShut 5 = .ok (.bipush 60, 2) := by decide +kernel
theorem dX3_isShut_7 : decode cX3_isShut 7 = .ok (.if_icmp .gt 41, 3) := by decide +kernel
theorem dX3_isShut_10 : decode cX3_isShut 10 = .ok (.iload_n 2, 1) := by decide +kernel
theorem dX3_isShut_11 : decode cX3_isShut 11 = .ok (.ifCond .eq 37, 3) := by decide +kernel
theorem dX3_isShut_14 : decode cX3_isShut 14 = .ok (.aload_n 0, 1) := by decide +kernel
theorem dX3_isShut_15 : decode cX3_isShut 15 = .ok (.iload_n 2, 1) := by decide +kernel
theorem dX3_isShut_16 : decode cX3_isShut 16 = .ok (.invokevirtual 36, 3) := by decide +kernel
theorem dX3_isShut_19 : decode cX3_isShut 19 = .ok (.astore 4, 2) := by decide +kernel
theorem dX3_isShut_21 : decode cX3_isShut 21 = .ok (.aload 4, 2) := by decide +kernel
theorem dX3_isShut_23 : decode cX3_isShut 23 = .ok (.ifnull 13, 3) := by decide +kernel
theorem dX3_isShut_26 : decode cX3_isShut 26 = .ok (.aload 4, 2) := by decide +kernel
theorem dX3_isShut_28 : decode cX3_isShut 28 = .ok (.getfield 93, 3) := by decide +kernel
theorem dX3_isShut_31 : decode cX3_isShut 31 = .ok (.ifCond .eq 5, 3) := by decide +kernel
theorem dX3_isShut_34 : decode cX3_isShut 34 = .ok (.iconst 1, 1) := by decide +kernel
theorem dX3_isShut_35 : decode cX3_isShut 35 = .ok (.ireturn, 1) := by decide +kernel
theorem dX3_isShut_36 : decode cX3_isShut 36 = .ok (.aload_n 0, 1) := by decide +kernel
theorem dX3_isShut_37 : decode cX3_isShut 37 = .ok (.iload_n 2, 1) := by decide +kernel
theorem dX3_isShut_38 : decode cX3_isShut 38 = .ok (.invokevirtual 47, 3) := by decide +kernel
theorem dX3_isShut_41 : decode cX3_isShut 41 = .ok (.istore_n 2, 1) := by decide +kernel
theorem dX3_isShut_42 : decode cX3_isShut 42 = .ok (.iinc 3 1, 3) := by decide +kernel
theorem dX3_isShut_45 : decode cX3_isShut 45 = .ok (.goto (-41), 3) := by decide +kernel
theorem dX3_isShut_48 : decode cX3_isShut 48 = .ok (.iconst 0, 1) := by decide +kernel
theorem dX3_isShut_49 : decode cX3_isShut 49 = .ok (.ireturn, 1) := by decide +kernel
theorem dX3_isWithin_0 : decode cX3_isWithin 0 = .ok (.iload_n 1, 1) := by decide +kernel
theorem dX3_isWithin_1 : decode cX3_isWithin 1 = .ok (.istore_n 3, 1) := by decide +kernel
theorem dX3_isWithin_2 : decode cX3_isWithin 2 = .ok (.iconst 0, 1) := by decide +kernel
theorem dX3_isWithin_3 : decode cX3_isWithin 3 = .ok (.istore 4, 2) := by decide +kernel
theorem dX3_isWithin_5 : decode cX3_isWithin 5 = .ok (.iload 4, 2) := by decide +kernel
theorem dX3_isWithin_7 : decode cX3_isWithin 7 = .ok (.bipush 60, 2) := by decide +kernel
theorem dX3_isWithin_9 : decode cX3_isWithin 9 = .ok (.if_icmp .gt 26, 3) := by decide +kernel
theorem dX3_isWithin_12 : decode cX3_isWithin 12 = .ok (.iload_n 3, 1) := by decide +kernel
theorem dX3_isWithin_13 : decode cX3_isWithin 13 = .ok (.ifCond .eq 22, 3) := by decide +kernel
theorem dX3_isWithin_16 : decode cX3_isWithin 16 = .ok (.iload_n 3, 1) := by decide +kernel
theorem dX3_isWithin_17 : decode cX3_isWithin 17 = .ok (.iload_n 2, 1) := by decide +kernel
theorem dX3_isWithin_18 : decode cX3_isWithin 18 = .ok (.if_icmp .ne 5, 3) := by decide +kernel
theorem dX3_isWithin_21 : decode cX3_isWithin 21 = .ok (.iconst 1, 1) := by decide +kernel
theorem dX3_isWithin_22 : decode cX3_isWithin 22 = .ok (.ireturn, 1) := by decide +kernel
theorem dX3_isWithin_23 : decode cX3_isWithin 23 = .ok (.aload_n 0, 1) := by decide +kernel
theorem dX3_isWithin_24 : decode cX3_isWithin 24 = .ok (.iload_n 3, 1) := by decide +kernel
theorem dX3_isWithin_25 : decode cX3_isWithin 25 = .ok (.invokevirtual 47, 3) := by decide +kernel
theorem dX3_isWithin_28 : decode cX3_isWithin 28 = .ok (.istore_n 3, 1) := by decide +kernel
theorem dX3_isWithin_29 : decode cX3_isWithin 29 = .ok (.iinc 4 1, 3) := by decide +kernel
theorem dX3_isWithin_32 : decode cX3_isWithin 32 = .ok (.goto (-27), 3) := by decide +kernel
theorem dX3_isWithin_35 : decode cX3_isWithin 35 = .ok (.iconst 0, 1) := by decide +kernel
theorem dX3_isWithin_36 : decode cX3_isWithin 36 = .ok (.ireturn, 1) := by decide +kernel
theorem dX3_isLesser_0 : decode cX3_isLesser 0 = .ok (.aload_n 0, 1) := by decide +kernel
theorem dX3_isLesser_1 : decode cX3_isLesser 1 = .ok (.iload_n 1, 1) := by decide +kernel
theorem dX3_isLesser_2 : decode cX3_isLesser 2 = .ok (.invokevirtual 36, 3) := by decide +kernel
theorem dX3_isLesser_5 : decode cX3_isLesser 5 = .ok (.astore_n 3, 1) := by decide +kernel
theorem dX3_isLesser_6 : decode cX3_isLesser 6 = .ok (.aload_n 3, 1) := by decide +kernel
theorem dX3_isLesser_7 : decode cX3_isLesser 7 = .ok (.ifnonnull 7, 3) := by decide +kernel
theorem dX3_isLesser_10 : decode cX3_isLesser 10 = .ok (.iconst (-1), 1) := by decide +kernel
theorem dX3_isLesser_11 : decode cX3_isLesser 11 = .ok (.goto 7, 3) := by decide +kernel
theorem dX3_isLesser_14 : decode cX3_isLesser 14 = .ok (.aload_n 3, 1) := by decide +kernel
theorem dX3_isLesser_15 : decode cX3_isLesser 15 = .ok (.getfield 176, 3) := by decide +kernel
theorem dX3_isLesser_18 : decode cX3_isLesser 18 = .ok (.istore 4, 2) := by decide +kernel
theorem dX3_isLesser_20 : decode cX3_isLesser 20 = .ok (.iload 4, 2) := by decide +kernel
theorem dX3_isLesser_22 : decode cX3_isLesser 22 = .ok (.aload_n 2, 1) := by decide +kernel
theorem dX3_isLesser_23 : decode cX3_isLesser 23 = .ok (.getfield 176, 3) := by decide +kernel
theorem dX3_isLesser_26 : decode cX3_isLesser 26 = .ok (.if_icmp .ge 7, 3) := by decide +kernel
theorem dX3_isLesser_29 : decode cX3_isLesser 29 = .ok (.iconst 1, 1) := by decide +kernel
theorem dX3_isLesser_30 : decode cX3_isLesser 30 = .ok (.goto 4, 3) := by decide +kernel
theorem dX3_isLesser_33 : decode cX3_isLesser 33 = .ok (.iconst 0, 1) := by decide +kernel
theorem dX3_isLesser_34 : decode cX3_isLesser 34 = .ok (.ireturn, 1) := by decide +kernel
theorem dX3_putIn_0 : decode cX3_putIn 0 = .ok (.aload_n 1, 1) := by decide +kernel
theorem dX3_putIn_1 : decode cX3_putIn 1 = .ok (.getfield 58, 3) := by decide +kernel
theorem dX3_putIn_4 : decode cX3_putIn 4 = .ok (.iload_n 3, 1) := by decide +kernel
theorem dX3_putIn_5 : decode cX3_putIn 5 = .ok (.invokevirtual 157, 3) := by decide +kernel
theorem dX3_putIn_8 : decode cX3_putIn 8 = .ok (.aload_n 0, 1) := by decide +kernel
theorem dX3_putIn_9 : decode cX3_putIn 9 = .ok (.iload_n 3, 1) := by decide +kernel
theorem dX3_putIn_10 : decode cX3_putIn 10 = .ok (.iload_n 2, 1) := by decide +kernel
theorem dX3_putIn_11 : decode cX3_putIn 11 = .ok (.invokevirtual 179, 3) := by decide +kernel
theorem dX3_putIn_14 : decode cX3_putIn 14 = .ok (.return_, 1) := by decide +kernel
theorem dX3_takeOut_0 : decode cX3_takeOut 0 = .ok (.aload_n 0, 1) := by decide +kernel
theorem dX3_takeOut_1 : decode cX3_takeOut 1 = .ok (.aload_n 0, 1) := by decide +kernel
theorem dX3_takeOut_2 : decode cX3_takeOut 2 = .ok (.iload_n 1, 1) := by decide +kernel
theorem dX3_takeOut_3 : decode cX3_takeOut 3 = .ok (.invokevirtual 47, 3) := by decide +kernel
theorem dX3_takeOut_6 : decode cX3_takeOut 6 = .ok (.invokevirtual 36, 3) := by decide +kernel
theorem dX3_takeOut_9 : decode cX3_takeOut 9 = .ok (.astore_n 2, 1) := by decide +kernel
theorem dX3_takeOut_10 : decode cX3_takeOut 10 = .ok (.aload_n 2, 1) := by decide +kernel
theorem dX3_takeOut_11 : decode cX3_takeOut 11 = .ok (.ifnull 27, 3) := by decide +kernel
theorem dX3_takeOut_14 : decode cX3_takeOut 14 = .ok (.aload_n 0, 1) := by decide +kernel
theorem dX3_takeOut_15 : decode cX3_takeOut 15 = .ok (.iload_n 1, 1) := by decide +kernel
theorem dX3_takeOut_16 : decode cX3_takeOut 16 = .ok (.aload_n 0, 1) := by decide +kernel
theorem dX3_takeOut_17 : decode cX3_takeOut 17 = .ok (.iload_n 1, 1) := by decide +kernel
theorem dX3_takeOut_18 : decode cX3_takeOut 18 = .ok (.invokevirtual 55, 3) := by decide +kernel
theorem dX3_takeOut_21 : decode cX3_takeOut 21 = .ok (.invokevirtual 160, 3) := by decide +kernel
theorem dX3_takeOut_24 : decode cX3_takeOut 24 = .ok (.aload_n 2, 1) := by decide +kernel
theorem dX3_takeOut_25 : decode cX3_takeOut 25 = .ok (.getfield 58, 3) := by decide +kernel
theorem dX3_takeOut_28 : decode cX3_takeOut 28 = .ok (.iload_n 1, 1) := by decide +kernel
theorem dX3_takeOut_29 : decode cX3_takeOut 29 = .ok (.invokevirtual 123, 3) := by decide +kernel
theorem dX3_takeOut_32 : decode cX3_takeOut 32 = .ok (.aload_n 0, 1) := by decide +kernel
theorem dX3_takeOut_33 : decode cX3_takeOut 33 = .ok (.iload_n 1, 1) := by decide +kernel
theorem dX3_takeOut_34 : decode cX3_takeOut 34 = .ok (.iconst 0, 1) := by decide +kernel
theorem dX3_takeOut_35 : decode cX3_takeOut 35 = .ok (.invokevirtual 179, 3) := by decide +kernel
theorem dX3_takeOut_38 : decode cX3_takeOut 38 = .ok (.return_, 1) := by decide +kernel
theorem dX3_foundExtra_0 : decode cX3_foundExtra 0 = .ok (.aload_n 0, 1) := by decide +kernel
theorem dX3_foundExtra_1 : decode cX3_foundExtra 1 = .ok (.iload_n 3, 1) := by decide +kernel
theorem dX3_foundExtra_2 : decode cX3_foundExtra 2 = .ok (.invokevirtual 47, 3) := by decide +kernel
theorem dX3_foundExtra_5 : decode cX3_foundExtra 5 = .ok (.iload_n 2, 1) := by decide +kernel
theorem dX3_foundExtra_6 : decode cX3_foundExtra 6 = .ok (.if_icmp .eq 7, 3) := by decide +kernel
theorem dX3_foundExtra_9 : decode cX3_foundExtra 9 = .ok (.iconst 1, 1) := by decide +kernel
theorem dX3_foundExtra_10 : decode cX3_foundExtra 10 = .ok (.goto 4, 3) := by decide +kernel
theorem dX3_foundExtra_13 : decode cX3_foundExtra 13 = .ok (.iconst 0, 1) := by decide +kernel
theorem dX3_foundExtra_14 : decode cX3_foundExtra 14 = .ok (.istore 4, 2) := by decide +kernel
theorem dX3_foundExtra_16 : decode cX3_foundExtra 16 = .ok (.aload_n 1, 1) := by decide +kernel
theorem dX3_foundExtra_17 : decode cX3_foundExtra 17 = .ok (.getfield 126, 3) := by decide +kernel
theorem dX3_foundExtra_20 : decode cX3_foundExtra 20 = .ok (.invokevirtual 62, 3) := by decide +kernel
theorem dX3_foundExtra_23 : decode cX3_foundExtra 23 = .ok (.ifCond .ne 18, 3) := by decide +kernel
theorem dX3_foundExtra_26 : decode cX3_foundExtra 26 = .ok (.iload 4, 2) := by decide +kernel
theorem dX3_foundExtra_28 : decode cX3_foundExtra 28 = .ok (.ifCond .eq 16, 3) := by decide +kernel
theorem dX3_foundExtra_31 : decode cX3_foundExtra 31 = .ok (.aload_n 1, 1) := by decide +kernel
theorem dX3_foundExtra_32 : decode cX3_foundExtra 32 = .ok (.getfield 58, 3) := by decide +kernel
theorem dX3_foundExtra_35 : decode cX3_foundExtra 35 = .ok (.invokevirtual 62, 3) := by decide +kernel
theorem dX3_foundExtra_38 : decode cX3_foundExtra 38 = .ok (.ifCond .eq 6, 3) := by decide +kernel
theorem dX3_foundExtra_41 : decode cX3_foundExtra 41 = .ok (.bipush (-14), 2) := by decide +kernel
theorem dX3_foundExtra_43 : decode cX3_foundExtra 43 = .ok (.ireturn, 1) := by decide +kernel
theorem dX3_foundExtra_44 : decode cX3_foundExtra 44 = .ok (.iload 4, 2) := by decide +kernel
theorem dX3_foundExtra_46 : decode cX3_foundExtra 46 = .ok (.ifCond .eq 15, 3) := by decide +kernel
theorem dX3_foundExtra_49 : decode cX3_foundExtra 49 = .ok (.aload_n 0, 1) := by decide +kernel
theorem dX3_foundExtra_50 : decode cX3_foundExtra 50 = .ok (.iload_n 3, 1) := by decide +kernel
theorem dX3_foundExtra_51 : decode cX3_foundExtra 51 = .ok (.invokevirtual 72, 3) := by decide +kernel
theorem dX3_foundExtra_54 : decode cX3_foundExtra 54 = .ok (.aload_n 0, 1) := by decide +kernel
theorem dX3_foundExtra_55 : decode cX3_foundExtra 55 = .ok (.aload_n 1, 1) := by decide +kernel
theorem dX3_foundExtra_56 : decode cX3_foundExtra 56 = .ok (.iload_n 2, 1) := by decide +kernel
theorem dX3_foundExtra_57 : decode cX3_foundExtra 57 = .ok (.iload_n 3, 1) := by decide +kernel
theorem dX3_foundExtra_58 : decode cX3_foundExtra 58 = .ok (.invokevirtual 68, 3) := by decide +kernel
theorem dX3_foundExtra_61 : decode cX3_foundExtra 61 = .ok (.aload_n 1, 1) := by decide +kernel
theorem dX3_foundExtra_62 : decode cX3_foundExtra 62 = .ok (.getfield 126, 3) := by decide +kernel
theorem dX3_foundExtra_65 : decode cX3_foundExtra 65 = .ok (.iload_n 3, 1) := by decide +kernel
theorem dX3_foundExtra_66 : decode cX3_foundExtra 66 = .ok (.invokevirtual 157, 3) := by decide +kernel
theorem dX3_foundExtra_69 : decode cX3_foundExtra 69 = .ok (.aload_n 0, 1) := by decide +kernel
theorem dX3_foundExtra_70 : decode cX3_foundExtra 70 = .ok (.getfield 25, 3) := by decide +kernel
theorem dX3_foundExtra_73 : decode cX3_foundExtra 73 = .ok (.aload_n 0, 1) := by decide +kernel
theorem dX3_foundExtra_74 : decode cX3_foundExtra 74 = .ok (.getfield 104, 3) := by decide +kernel
theorem dX3_foundExtra_77 : decode cX3_foundExtra 77 = .ok (.ldc2_w 108, 3) := by decide +kernel
theorem dX3_foundExtra_80 : decode cX3_foundExtra 80 = .ok (.ladd, 1) := by decide +kernel
theorem dX3_foundExtra_81 : decode cX3_foundExtra 81 = .ok (.invokevirtual 110, 3) := by decide +kernel
theorem dX3_foundExtra_84 : decode cX3_foundExtra 84 = .ok (.iconst 0, 1) := by decide +kernel
theorem dX3_foundExtra_85 : decode cX3_foundExtra 85 = .ok (.ireturn, 1) := by decide +kernel
theorem dX3_weightOf_0 : decode cX3_weightOf 0 = .ok (.lconst 0, 1) := by decide +kernel
theorem dX3_weightOf_1 : decode cX3_weightOf 1 = .ok (.lstore_n 2, 1) := by decide +kernel
theorem dX3_weightOf_2 : decode cX3_weightOf 2 = .ok (.iconst 0, 1) := by decide +kernel
theorem dX3_weightOf_3 : decode cX3_weightOf 3 = .ok (.istore 4, 2) := by decide +kernel
theorem dX3_weightOf_5 : decode cX3_weightOf 5 = .ok (.iload 4, 2) := by decide +kernel
theorem dX3_weightOf_7 : decode cX3_weightOf 7 = .ok (.aload_n 0, 1) := by decide +kernel
theorem dX3_weightOf_8 : decode cX3_weightOf 8 = .ok (.getfield 29, 3) := by decide +kernel
theorem dX3_weightOf_11 : decode cX3_weightOf 11 = .ok (.if_icmp .ge 73, 3) := by decide +kernel
theorem dX3_weightOf_14 : decode cX3_weightOf 14 = .ok (.iload 4, 2) := by decide +kernel
theorem dX3_weightOf_16 : decode cX3_weightOf 16 = .ok (.aload_n 0, 1) := by decide +kernel
theorem dX3_weightOf_17 : decode cX3_weightOf 17 = .ok (.getfield 11, 3) := by decide +kernel
theorem dX3_weightOf_20 : decode cX3_weightOf 20 = .ok (.arraylength, 1) := by decide +kernel
theorem dX3_weightOf_21 : decode cX3_weightOf 21 = .ok (.if_icmp .ge 63, 3) := by decide +kernel
theorem dX3_weightOf_24 : decode cX3_weightOf 24 = .ok (.aload_n 0, 1) := by decide +kernel
theorem dX3_weightOf_25 : decode cX3_weightOf 25 = .ok (.getfield 11, 3) := by decide +kernel
theorem dX3_weightOf_28 : decode cX3_weightOf 28 = .ok (.iload 4, 2) := by decide +kernel
theorem dX3_weightOf_30 : decode cX3_weightOf 30 = .ok (.aaload, 1) := by decide +kernel
theorem dX3_weightOf_31 : decode cX3_weightOf 31 = .ok (.astore 5, 2) := by decide +kernel
theorem dX3_weightOf_33 : decode cX3_weightOf 33 = .ok (.aload 5, 2) := by decide +kernel
theorem dX3_weightOf_35 : decode cX3_weightOf 35 = .ok (.ifnull 43, 3) := by decide +kernel
theorem dX3_weightOf_38 : decode cX3_weightOf 38 = .ok (.aload_n 0, 1) := by decide +kernel
theorem dX3_weightOf_39 : decode cX3_weightOf 39 = .ok (.sipush 1001, 3) := by decide +kernel
theorem dX3_weightOf_42 : decode cX3_weightOf 42 = .ok (.iload 4, 2) := by decide +kernel
theorem dX3_weightOf_44 : decode cX3_weightOf 44 = .ok (.iadd, 1) := by decide +kernel
theorem dX3_weightOf_45 : decode cX3_weightOf 45 = .ok (.iload_n 1, 1) := by decide +kernel
theorem dX3_weightOf_46 : decode cX3_weightOf 46 = .ok (.invokevirtual 182, 3) := by decide +kernel
theorem dX3_weightOf_49 : decode cX3_weightOf 49 = .ok (.ifCond .eq 29, 3) := by decide +kernel
theorem dX3_weightOf_52 : decode cX3_weightOf 52 = .ok (.lload_n 2, 1) := by decide +kernel
theorem dX3_weightOf_53 : decode cX3_weightOf 53 = .ok (.ldc2_w 108, 3) := by decide +kernel
theorem dX3_weightOf_56 : decode cX3_weightOf 56 = .ok (.aload 5, 2) := by decide +kernel
theorem dX3_weightOf_58 : decode cX3_weightOf 58 = .ok (.getfield 176, 3) := by decide +kernel
theorem dX3_weightOf_61 : decode cX3_weightOf 61 = .ok (.i2l, 1) := by decide +kernel
theorem dX3_weightOf_62 : decode cX3_weightOf 62 = .ok (.lmul, 1) := by decide +kernel
theorem dX3_weightOf_63 : decode cX3_weightOf 63 = .ok (.ldc2_w 108, 3) := by decide +kernel
theorem dX3_weightOf_66 : decode cX3_weightOf 66 = .ok (.ladd, 1) := by decide +kernel
theorem dX3_weightOf_67 : decode cX3_weightOf 67 = .ok (.aload 5, 2) := by decide +kernel
theorem dX3_weightOf_69 : decode cX3_weightOf 69 = .ok (.getfield 58, 3) := by decide +kernel
theorem dX3_weightOf_72 : decode cX3_weightOf 72 = .ok (.invokestatic 185, 3) := by decide +kernel
theorem dX3_weightOf_75 : decode cX3_weightOf 75 = .ok (.ladd, 1) := by decide +kernel
theorem dX3_weightOf_76 : decode cX3_weightOf 76 = .ok (.ladd, 1) := by decide +kernel
theorem dX3_weightOf_77 : decode cX3_weightOf 77 = .ok (.lstore_n 2, 1) := by decide +kernel
theorem dX3_weightOf_78 : decode cX3_weightOf 78 = .ok (.iinc 4 1, 3) := by decide +kernel
theorem dX3_weightOf_81 : decode cX3_weightOf 81 = .ok (.goto (-76), 3) := by decide +kernel
theorem dX3_weightOf_84 : decode cX3_weightOf 84 = .ok (.lload_n 2, 1) := by decide +kernel
theorem dX3_weightOf_85 : decode cX3_weightOf 85 = .ok (.lreturn, 1) := by decide +kernel
theorem dX3_weightOfItems_0 : decode cX3_weightOfItems 0 = .ok (.lconst 0, 1) := by decide +kernel
theorem dX3_weightOfItems_1 : decode cX3_weightOfItems 1 = .ok (.lstore_n 1, 1) := by decide +kernel
theorem dX3_weightOfItems_2 : decode cX3_weightOfItems 2 = .ok (.iconst 0, 1) := by decide +kernel
theorem dX3_weightOfItems_3 : decode cX3_weightOfItems 3 = .ok (.istore_n 3, 1) := by decide +kernel
theorem dX3_weightOfItems_4 : decode cX3_weightOfItems 4 = .ok (.iload_n 3, 1) := by decide +kernel
theorem dX3_weightOfItems_5 : decode cX3_weightOfItems 5 = .ok (.aload_n 0, 1) := by decide +kernel
theorem dX3_weightOfItems_6 : decode cX3_weightOfItems 6 = .ok (.invokevirtual 89, 3) := by decide +kernel
theorem dX3_weightOfItems_9 : decode cX3_weightOfItems 9 = .ok (.if_icmp .ge 38, 3) := by decide +kernel
theorem dX3_weightOfItems_12 : decode cX3_weightOfItems 12 = .ok (.aload_n 0, 1) := by decide +kernel
theorem dX3_weightOfItems_13 : decode cX3_weightOfItems 13 = .ok (.iload_n 3, 1) := by decide +kernel
theorem dX3_weightOfItems_14 : decode cX3_weightOfItems 14 = .ok (.invokevirtual 137, 3) := by decide +kernel
theorem dX3_weightOfItems_17 : decode cX3_weightOfItems 17 = .ok (.istore 4, 2) := by decide +kernel
theorem dX3_weightOfItems_19 : decode cX3_weightOfItems 19 = .ok (.iload 4, 2) := by decide +kernel
theorem dX3_weightOfItems_21 : decode cX3_weightOfItems 21 = .ok (.invokestatic 173, 3) := by decide +kernel
theorem dX3_weightOfItems_24 : decode cX3_weightOfItems 24 = .ok (.ifCond .eq 17, 3) := by decide +kernel
theorem dX3_weightOfItems_27 : decode cX3_weightOfItems 27 = .ok (.lload_n 1, 1) := by decide +kernel
theorem dX3_weightOfItems_28 : decode cX3_weightOfItems 28 = .ok (.iconst 5, 1) := by decide +kernel
theorem dX3_weightOfItems_29 : decode cX3_weightOfItems 29 = .ok (.bipush 10, 2) := by decide +kernel
theorem dX3_weightOfItems_31 : decode cX3_weightOfItems 31 = .ok (.iload 4, 2) := by decide +kernel
theorem dX3_weightOfItems_33 : decode cX3_weightOfItems 33 = .ok (.bipush 50, 2) := by decide +kernel
theorem dX3_weightOfItems_35 : decode cX3_weightOfItems 35 = .ok (.irem, 1) := by decide +kernel
theorem dX3_weightOfItems_36 : decode cX3_weightOfItems 36 = .ok (.imul, 1) := by decide +kernel
theorem dX3_weightOfItems_37 : decode cX3_weightOfItems 37 = .ok (.iadd, 1) := by decide +kernel
theorem dX3_weightOfItems_38 : decode cX3_weightOfItems 38 = .ok (.i2l, 1) := by decide +kernel
theorem dX3_weightOfItems_39 : decode cX3_weightOfItems 39 = .ok (.ladd, 1) := by decide +kernel
theorem dX3_weightOfItems_40 : decode cX3_weightOfItems 40 = .ok (.lstore_n 1, 1) := by decide +kernel
theorem dX3_weightOfItems_41 : decode cX3_weightOfItems 41 = .ok (.iinc 3 1, 3) := by decide +kernel
theorem dX3_weightOfItems_44 : decode cX3_weightOfItems 44 = .ok (.goto (-40), 3) := by decide +kernel
theorem dX3_weightOfItems_47 : decode cX3_weightOfItems 47 = .ok (.lload_n 1, 1) := by decide +kernel
theorem dX3_weightOfItems_48 : decode cX3_weightOfItems 48 = .ok (.lreturn, 1) := by decide +kernel
theorem dX3_thingsOf_0 : decode cX3_thingsOf 0 = .ok (.iconst 1, 1) := by decide +kernel
theorem dX3_thingsOf_1 : decode cX3_thingsOf 1 = .ok (.istore_n 2, 1) := by decide +kernel
theorem dX3_thingsOf_2 : decode cX3_thingsOf 2 = .ok (.iconst 0, 1) := by decide +kernel
theorem dX3_thingsOf_3 : decode cX3_thingsOf 3 = .ok (.istore_n 3, 1) := by decide +kernel
theorem dX3_thingsOf_4 : decode cX3_thingsOf 4 = .ok (.iload_n 3, 1) := by decide +kernel
theorem dX3_thingsOf_5 : decode cX3_thingsOf 5 = .ok (.aload_n 0, 1) := by decide +kernel
theorem dX3_thingsOf_6 : decode cX3_thingsOf 6 = .ok (.getfield 29, 3) := by decide +kernel
theorem dX3_thingsOf_9 : decode cX3_thingsOf 9 = .ok (.if_icmp .ge 55, 3) := by decide +kernel
theorem dX3_thingsOf_12 : decode cX3_thingsOf 12 = .ok (.iload_n 3, 1) := by decide +kernel
theorem dX3_thingsOf_13 : decode cX3_thingsOf 13 = .ok (.aload_n 0, 1) := by decide +kernel
theorem dX3_thingsOf_14 : decode cX3_thingsOf 14 = .ok (.getfield 11, 3) := by decide +kernel
theorem dX3_thingsOf_17 : decode cX3_thingsOf 17 = .ok (.arraylength, 1) := by decide +kernel
theorem dX3_thingsOf_18 : decode cX3_thingsOf 18 = .ok (.if_icmp .ge 46, 3) := by decide +kernel
theorem dX3_thingsOf_21 : decode cX3_thingsOf 21 = .ok (.aload_n 0, 1) := by decide +kernel
theorem dX3_thingsOf_22 : decode cX3_thingsOf 22 = .ok (.getfield 11, 3) := by decide +kernel
theorem dX3_thingsOf_25 : decode cX3_thingsOf 25 = .ok (.iload_n 3, 1) := by decide +kernel
theorem dX3_thingsOf_26 : decode cX3_thingsOf 26 = .ok (.aaload, 1) := by decide +kernel
theorem dX3_thingsOf_27 : decode cX3_thingsOf 27 = .ok (.astore 4, 2) := by decide +kernel
theorem dX3_thingsOf_29 : decode cX3_thingsOf 29 = .ok (.aload 4, 2) := by decide +kernel
theorem dX3_thingsOf_31 : decode cX3_thingsOf 31 = .ok (.ifnull 27, 3) := by decide +kernel
theorem dX3_thingsOf_34 : decode cX3_thingsOf 34 = .ok (.aload_n 0, 1) := by decide +kernel
theorem dX3_thingsOf_35 : decode cX3_thingsOf 35 = .ok (.sipush 1001, 3) := by decide +kernel
theorem dX3_thingsOf_38 : decode cX3_thingsOf 38 = .ok (.iload_n 3, 1) := by decide +kernel
theorem dX3_thingsOf_39 : decode cX3_thingsOf 39 = .ok (.iadd, 1) := by decide +kernel
theorem dX3_thingsOf_40 : decode cX3_thingsOf 40 = .ok (.iload_n 1, 1) := by decide +kernel
theorem dX3_thingsOf_41 : decode cX3_thingsOf 41 = .ok (.invokevirtual 182, 3) := by decide +kernel
theorem dX3_thingsOf_44 : decode cX3_thingsOf 44 = .ok (.ifCond .eq 14, 3) := by decide +kernel
theorem dX3_thingsOf_47 : decode cX3_thingsOf 47 = .ok (.iload_n 2, 1) := by decide +kernel
theorem dX3_thingsOf_48 : decode cX3_thingsOf 48 = .ok (.aload 4, 2) := by decide +kernel
theorem dX3_thingsOf_50 : decode cX3_thingsOf 50 = .ok (.getfield 58, 3) := by decide +kernel
theorem dX3_thingsOf_53 : decode cX3_thingsOf 53 = .ok (.invokevirtual 89, 3) := by decide +kernel
theorem dX3_thingsOf_56 : decode cX3_thingsOf 56 = .ok (.iadd, 1) := by decide +kernel
theorem dX3_thingsOf_57 : decode cX3_thingsOf 57 = .ok (.istore_n 2, 1) := by decide +kernel
theorem dX3_thingsOf_58 : decode cX3_thingsOf 58 = .ok (.iinc 3 1, 3) := by decide +kernel
theorem dX3_thingsOf_61 : decode cX3_thingsOf 61 = .ok (.goto (-57), 3) := by decide +kernel
theorem dX3_thingsOf_64 : decode cX3_thingsOf 64 = .ok (.iload_n 2, 1) := by decide +kernel
theorem dX3_thingsOf_65 : decode cX3_thingsOf 65 = .ok (.ireturn, 1) := by decide +kernel
