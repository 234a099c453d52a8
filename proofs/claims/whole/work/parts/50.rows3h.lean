theorem dX11_restore_23 : decode cX11_restore 23 = .ok (.aload_n 0, 1) := by decide +kernel
theorem dX11_restore_24 : decode cX11_restore 24 = .ok (.getfield 109, 3) := by decide +kernel
theorem dX11_restore_27 : decode cX11_restore 27 = .ok (.iload_n 1, 1) := by decide +kernel
theorem dX11_restore_28 : decode cX11_restore 28 = .ok (.iaload, 1) := by decide +kernel
theorem dX11_restore_29 : decode cX11_restore 29 = .ok (.iastore, 1) := by decide +kernel
theorem dX11_restore_30 : decode cX11_restore 30 = .ok (.iinc 1 1, 3) := by decide +kernel
theorem dX11_restore_33 : decode cX11_restore 33 = .ok (.goto (-21), 3) := by decide +kernel
theorem dX11_restore_36 : decode cX11_restore 36 = .ok (.iconst 0, 1) := by decide +kernel
theorem dX11_restore_37 : decode cX11_restore 37 = .ok (.istore_n 1, 1) := by decide +kernel
theorem dX11_restore_38 : decode cX11_restore 38 = .ok (.iload_n 1, 1) := by decide +kernel
theorem dX11_restore_39 : decode cX11_restore 39 = .ok (.iconst 3, 1) := by decide +kernel
theorem dX11_restore_40 : decode cX11_restore 40 = .ok (.if_icmp .ge 24, 3) := by decide +kernel
theorem dX11_restore_43 : decode cX11_restore 43 = .ok (.aload_n 0, 1) := by decide +kernel
theorem dX11_restore_44 : decode cX11_restore 44 = .ok (.getfield 16, 3) := by decide +kernel
theorem dX11_restore_47 : decode cX11_restore 47 = .ok (.iload_n 1, 1) := by decide +kernel
theorem dX11_restore_48 : decode cX11_restore 48 = .ok (.aload_n 0, 1) := by decide +kernel
theorem dX11_restore_49 : decode cX11_restore 49 = .ok (.getfield 109, 3) := by decide +kernel
theorem dX11_restore_52 : decode cX11_restore 52 = .ok (.bipush 18, 2) := by decide +kernel
theorem dX11_restore_54 : decode cX11_restore 54 = .ok (.iload_n 1, 1) := by decide +kernel
theorem dX11_restore_55 : decode cX11_restore 55 = .ok (.iadd, 1) := by decide +kernel
theorem dX11_restore_56 : decode cX11_restore 56 = .ok (.iaload, 1) := by decide +kernel
theorem dX11_restore_57 : decode cX11_restore 57 = .ok (.iastore, 1) := by decide +kernel
theorem dX11_restore_58 : decode cX11_restore 58 = .ok (.iinc 1 1, 3) := by decide +kernel
theorem dX11_restore_61 : decode cX11_restore 61 = .ok (.goto (-23), 3) := by decide +kernel
theorem dX11_restore_64 : decode cX11_restore 64 = .ok (.aload_n 0, 1) := by decide +kernel
theorem dX11_restore_65 : decode cX11_restore 65 = .ok (.aload_n 0, 1) := by decide +kernel
theorem dX11_restore_66 : decode cX11_restore 66 = .ok (.getfield 109, 3) := by decide +kernel
theorem dX11_restore_69 : decode cX11_restore 69 = .ok (.bipush 21, 2) := by decide +kernel
theorem dX11_restore_71 : decode cX11_restore 71 = .ok (.iaload, 1) := by decide +kernel
theorem dX11_restore_72 : decode cX11_restore 72 = .ok (.putfield 19, 3) := by decide +kernel
theorem dX11_restore_75 : decode cX11_restore 75 = .ok (.aload_n 0, 1) := by decide +kernel
theorem dX11_restore_76 : decode cX11_restore 76 = .ok (.aload_n 0, 1) := by decide +kernel
theorem dX11_restore_77 : decode cX11_restore 77 = .ok (.getfield 109, 3) := by decide +kernel
theorem dX11_restore_80 : decode cX11_restore 80 = .ok (.bipush 22, 2) := by decide +kernel
theorem dX11_restore_82 : decode cX11_restore 82 = .ok (.iaload, 1) := by decide +kernel
theorem dX11_restore_83 : decode cX11_restore 83 = .ok (.putfield 112, 3) := by decide +kernel
theorem dX11_restore_86 : decode cX11_restore 86 = .ok (.aload_n 0, 1) := by decide +kernel
theorem dX11_restore_87 : decode cX11_restore 87 = .ok (.aload_n 0, 1) := by decide +kernel
theorem dX11_restore_88 : decode cX11_restore 88 = .ok (.getfield 109, 3) := by decide +kernel
theorem dX11_restore_91 : decode cX11_restore 91 = .ok (.bipush 23, 2) := by decide +kernel
theorem dX11_restore_93 : decode cX11_restore 93 = .ok (.iaload, 1) := by decide +kernel
theorem dX11_restore_94 : decode cX11_restore 94 = .ok (.putfield 115, 3) := by decide +kernel
theorem dX11_restore_97 : decode cX11_restore 97 = .ok (.aload_n 0, 1) := by decide +kernel
theorem dX11_restore_98 : decode cX11_restore 98 = .ok (.iconst 0, 1) := by decide +kernel
theorem dX11_restore_99 : decode cX11_restore 99 = .ok (.putfield 118, 3) := by decide +kernel
theorem dX11_restore_102 : decode cX11_restore 102 = .ok (.aload_n 0, 1) := by decide +kernel
theorem dX11_restore_103 : decode cX11_restore 103 = .ok (.getfield 19, 3) := by decide +kernel
theorem dX11_restore_106 : decode cX11_restore 106 = .ok (.ireturn, 1) := by decide +kernel
