theorem dL_addsUp_600 : decode cL_addsUp 600 = .ok (.lstore 7, 2) := by decide +kernel
theorem dL_addsUp_602 : decode cL_addsUp 602 = .ok (.iconst 0, 1) := by decide +kernel
theorem dL_addsUp_603 : decode cL_addsUp 603 = .ok (.istore 9, 2) := by decide +kernel
theorem dL_addsUp_605 : decode cL_addsUp 605 = .ok (.iload 9, 2) := by decide +kernel
theorem dL_addsUp_607 : decode cL_addsUp 607 = .ok (.aload_n 0, 1) := by decide +kernel
theorem dL_addsUp_608 : decode cL_addsUp 608 = .ok (.invokevirtual 141, 3) := by decide +kernel
theorem dL_addsUp_611 : decode cL_addsUp 611 = .ok (.if_icmp .ge 22, 3) := by decide +kernel
theorem dL_addsUp_614 : decode cL_addsUp 614 = .ok (.lload 7, 2) := by decide +kernel
theorem dL_addsUp_616 : decode cL_addsUp 616 = .ok (.aload_n 0, 1) := by decide +kernel
theorem dL_addsUp_617 : decode cL_addsUp 617 = .ok (.iload 6, 2) := by decide +kernel
theorem dL_addsUp_619 : decode cL_addsUp 619 = .ok (.iload 9, 2) := by decide +kernel
theorem dL_addsUp_621 : decode cL_addsUp 621 = .ok (.invokestatic 230, 3) := by decide +kernel
theorem dL_addsUp_624 : decode cL_addsUp 624 = .ok (.ladd, 1) := by decide +kernel
theorem dL_addsUp_625 : decode cL_addsUp 625 = .ok (.lstore 7, 2) := by decide +kernel
theorem dL_addsUp_627 : decode cL_addsUp 627 = .ok (.iinc 9 1, 3) := by decide +kernel
theorem dL_addsUp_630 : decode cL_addsUp 630 = .ok (.goto (-25), 3) := by decide +kernel
theorem dL_addsUp_633 : decode cL_addsUp 633 = .ok (.lload 7, 2) := by decide +kernel
theorem dL_addsUp_635 : decode cL_addsUp 635 = .ok (.aload 4, 2) := by decide +kernel
theorem dL_addsUp_637 : decode cL_addsUp 637 = .ok (.iload 6, 2) := by decide +kernel
theorem dL_addsUp_639 : decode cL_addsUp 639 = .ok (.iaload, 1) := by decide +kernel
theorem dL_addsUp_640 : decode cL_addsUp 640 = .ok (.i2l, 1) := by decide +kernel
theorem dL_addsUp_641 : decode cL_addsUp 641 = .ok (.lcmp, 1) := by decide +kernel
theorem dL_addsUp_642 : decode cL_addsUp 642 = .ok (.ifCond .ne 18, 3) := by decide +kernel
theorem dL_addsUp_645 : decode cL_addsUp 645 = .ok (.aload_n 0, 1) := by decide +kernel
theorem dL_addsUp_646 : decode cL_addsUp 646 = .ok (.iload 6, 2) := by decide +kernel
theorem dL_addsUp_648 : decode cL_addsUp 648 = .ok (.invokestatic 168, 3) := by decide +kernel
theorem dL_addsUp_651 : decode cL_addsUp 651 = .ok (.lconst 0, 1) := by decide +kernel
theorem dL_addsUp_652 : decode cL_addsUp 652 = .ok (.lcmp, 1) := by decide +kernel
theorem dL_addsUp_653 : decode cL_addsUp 653 = .ok (.ifCond .lt 7, 3) := by decide +kernel
theorem dL_addsUp_656 : decode cL_addsUp 656 = .ok (.iconst 1, 1) := by decide +kernel
theorem dL_addsUp_657 : decode cL_addsUp 657 = .ok (.goto 4, 3) := by decide +kernel
theorem dL_addsUp_660 : decode cL_addsUp 660 = .ok (.iconst 0, 1) := by decide +kernel
theorem dL_addsUp_661 : decode cL_addsUp 661 = .ok (.istore 5, 2) := by decide +kernel
theorem dL_addsUp_663 : decode cL_addsUp 663 = .ok (.iinc 6 1, 3) := by decide +kernel
theorem dL_addsUp_666 : decode cL_addsUp 666 = .ok (.goto (-86), 3) := by decide +kernel
theorem dL_addsUp_669 : decode cL_addsUp 669 = .ok (.iload 5, 2) := by decide +kernel
theorem dL_addsUp_671 : decode cL_addsUp 671 = .ok (.ifCond .eq 45, 3) := by decide +kernel
theorem dL_addsUp_674 : decode cL_addsUp 674 = .ok (.aload_n 0, 1) := by decide +kernel
theorem dL_addsUp_675 : decode cL_addsUp 675 = .ok (.iconst 0, 1) := by decide +kernel
theorem dL_addsUp_676 : decode cL_addsUp 676 = .ok (.invokestatic 217, 3) := by decide +kernel
theorem dL_addsUp_679 : decode cL_addsUp 679 = .ok (.aload_n 0, 1) := by decide +kernel
theorem dL_addsUp_680 : decode cL_addsUp 680 = .ok (.iconst 1, 1) := by decide +kernel
theorem dL_addsUp_681 : decode cL_addsUp 681 = .ok (.invokestatic 217, 3) := by decide +kernel
theorem dL_addsUp_684 : decode cL_addsUp 684 = .ok (.ladd, 1) := by decide +kernel
theorem dL_addsUp_685 : decode cL_addsUp 685 = .ok (.aload_n 0, 1) := by decide +kernel
theorem dL_addsUp_686 : decode cL_addsUp 686 = .ok (.iconst 2, 1) := by decide +kernel
theorem dL_addsUp_687 : decode cL_addsUp 687 = .ok (.invokestatic 217, 3) := by decide +kernel
theorem dL_addsUp_690 : decode cL_addsUp 690 = .ok (.ladd, 1) := by decide +kernel
theorem dL_addsUp_691 : decode cL_addsUp 691 = .ok (.aload_n 0, 1) := by decide +kernel
theorem dL_addsUp_692 : decode cL_addsUp 692 = .ok (.iconst 3, 1) := by decide +kernel
theorem dL_addsUp_693 : decode cL_addsUp 693 = .ok (.invokestatic 217, 3) := by decide +kernel
theorem dL_addsUp_696 : decode cL_addsUp 696 = .ok (.ladd, 1) := by decide +kernel
theorem dL_addsUp_697 : decode cL_addsUp 697 = .ok (.aload_n 0, 1) := by decide +kernel
theorem dL_addsUp_698 : decode cL_addsUp 698 = .ok (.iconst 4, 1) := by decide +kernel
theorem dL_addsUp_699 : decode cL_addsUp 699 = .ok (.invokestatic 217, 3) := by decide +kernel
theorem dL_addsUp_702 : decode cL_addsUp 702 = .ok (.ladd, 1) := by decide +kernel
theorem dL_addsUp_703 : decode cL_addsUp 703 = .ok (.aload_n 0, 1) := by decide +kernel
theorem dL_addsUp_704 : decode cL_addsUp 704 = .ok (.invokevirtual 141, 3) := by decide +kernel
theorem dL_addsUp_707 : decode cL_addsUp 707 = .ok (.i2l, 1) := by decide +kernel
theorem dL_addsUp_708 : decode cL_addsUp 708 = .ok (.lcmp, 1) := by decide +kernel
theorem dL_addsUp_709 : decode cL_addsUp 709 = .ok (.ifCond .ne 7, 3) := by decide +kernel
theorem dL_addsUp_712 : decode cL_addsUp 712 = .ok (.iconst 1, 1) := by decide +kernel
theorem dL_addsUp_713 : decode cL_addsUp 713 = .ok (.goto 4, 3) := by decide +kernel
theorem dL_addsUp_716 : decode cL_addsUp 716 = .ok (.iconst 0, 1) := by decide +kernel
theorem dL_addsUp_717 : decode cL_addsUp 717 = .ok (.ireturn, 1) := by decide +kernel
theorem dL_clear_0 : decode cL_clear 0 = .ok (.lconst 0, 1) := by decide +kernel
theorem dL_clear_1 : decode cL_clear 1 = .ok (.lstore_n 3, 1) := by decide +kernel
theorem dL_clear_2 : decode cL_clear 2 = .ok (.iconst 0, 1) := by decide +kernel
theorem dL_clear_3 : decode cL_clear 3 = .ok (.istore 5, 2) := by decide +kernel
theorem dL_clear_5 : decode cL_clear 5 = .ok (.iload 5, 2) := by decide +kernel
theorem dL_clear_7 : decode cL_clear 7 = .ok (.aload_n 0, 1) := by decide +kernel
theorem dL_clear_8 : decode cL_clear 8 = .ok (.invokevirtual 141, 3) := by decide +kernel
theorem dL_clear_11 : decode cL_clear 11 = .ok (.if_icmp .ge 37, 3) := by decide +kernel
theorem dL_clear_14 : decode cL_clear 14 = .ok (.lload_n 3, 1) := by decide +kernel
theorem dL_clear_15 : decode cL_clear 15 = .ok (.aload_n 1, 1) := by decide +kernel
theorem dL_clear_16 : decode cL_clear 16 = .ok (.iload 5, 2) := by decide +kernel
theorem dL_clear_18 : decode cL_clear 18 = .ok (.iaload, 1) := by decide +kernel
theorem dL_clear_19 : decode cL_clear 19 = .ok (.iload_n 2, 1) := by decide +kernel
theorem dL_clear_20 : decode cL_clear 20 = .ok (.if_icmp .ne 19, 3) := by decide +kernel
theorem dL_clear_23 : decode cL_clear 23 = .ok (.aload_n 0, 1) := by decide +kernel
theorem dL_clear_24 : decode cL_clear 24 = .ok (.iload 5, 2) := by decide +kernel
theorem dL_clear_26 : decode cL_clear 26 = .ok (.invokestatic 144, 3) := by decide +kernel
theorem dL_clear_29 : decode cL_clear 29 = .ok (.aload_n 0, 1) := by decide +kernel
theorem dL_clear_30 : decode cL_clear 30 = .ok (.iload 5, 2) := by decide +kernel
theorem dL_clear_32 : decode cL_clear 32 = .ok (.invokestatic 150, 3) := by decide +kernel
theorem dL_clear_35 : decode cL_clear 35 = .ok (.lsub, 1) := by decide +kernel
theorem dL_clear_36 : decode cL_clear 36 = .ok (.goto 4, 3) := by decide +kernel
theorem dL_clear_39 : decode cL_clear 39 = .ok (.lconst 0, 1) := by decide +kernel
theorem dL_clear_40 : decode cL_clear 40 = .ok (.ladd, 1) := by decide +kernel
theorem dL_clear_41 : decode cL_clear 41 = .ok (.lstore_n 3, 1) := by decide +kernel
theorem dL_clear_42 : decode cL_clear 42 = .ok (.iinc 5 1, 3) := by decide +kernel
theorem dL_clear_45 : decode cL_clear 45 = .ok (.goto (-40), 3) := by decide +kernel
theorem dL_clear_48 : decode cL_clear 48 = .ok (.lload_n 3, 1) := by decide +kernel
theorem dL_clear_49 : decode cL_clear 49 = .ok (.lreturn, 1) := by decide +kernel
theorem dL_interests_0 : decode cL_interests 0 = .ok (.lconst 0, 1) := by decide +kernel
theorem dL_interests_1 : decode cL_interests 1 = .ok (.lstore_n 3, 1) := by decide +kernel
theorem dL_interests_2 : decode cL_interests 2 = .ok (.iconst 0, 1) := by decide +kernel
theorem dL_interests_3 : decode cL_interests 3 = .ok (.istore 5, 2) := by decide +kernel
theorem dL_interests_5 : decode cL_interests 5 = .ok (.iload 5, 2) := by decide +kernel
theorem dL_interests_7 : decode cL_interests 7 = .ok (.aload_n 0, 1) := by decide +kernel
theorem dL_interests_8 : decode cL_interests 8 = .ok (.invokevirtual 141, 3) := by decide +kernel
theorem dL_interests_11 : decode cL_interests 11 = .ok (.if_icmp .ge 30, 3) := by decide +kernel
theorem dL_interests_14 : decode cL_interests 14 = .ok (.lload_n 3, 1) := by decide +kernel
theorem dL_interests_15 : decode cL_interests 15 = .ok (.aload_n 1, 1) := by decide +kernel
theorem dL_interests_16 : decode cL_interests 16 = .ok (.iload 5, 2) := by decide +kernel
theorem dL_interests_18 : decode cL_interests 18 = .ok (.iaload, 1) := by decide +kernel
theorem dL_interests_19 : decode cL_interests 19 = .ok (.iload_n 2, 1) := by decide +kernel
theorem dL_interests_20 : decode cL_interests 20 = .ok (.if_icmp .ne 12, 3) := by decide +kernel
theorem dL_interests_23 : decode cL_interests 23 = .ok (.aload_n 0, 1) := by decide +kernel
theorem dL_interests_24 : decode cL_interests 24 = .ok (.iload 5, 2) := by decide +kernel
theorem dL_interests_26 : decode cL_interests 26 = .ok (.invokestatic 153, 3) := by decide +kernel
theorem dL_interests_29 : decode cL_interests 29 = .ok (.goto 4, 3) := by decide +kernel
theorem dL_interests_32 : decode cL_interests 32 = .ok (.lconst 0, 1) := by decide +kernel
theorem dL_interests_33 : decode cL_interests 33 = .ok (.ladd, 1) := by decide +kernel
theorem dL_interests_34 : decode cL_interests 34 = .ok (.lstore_n 3, 1) := by decide +kernel
theorem dL_interests_35 : decode cL_interests 35 = .ok (.iinc 5 1, 3) := by decide +kernel
theorem dL_interests_38 : decode cL_interests 38 = .ok (.goto (-33), 3) := by decide +kernel
theorem dL_interests_41 : decode cL_interests 41 = .ok (.lload_n 3, 1) := by decide +kernel
theorem dL_interests_42 : decode cL_interests 42 = .ok (.lreturn, 1) := by decide +kernel
theorem dL_pays_0 : decode cL_pays 0 = .ok (.aload_n 0, 1) := by decide +kernel
theorem dL_pays_1 : decode cL_pays 1 = .ok (.invokevirtual 165, 3) := by decide +kernel
theorem dL_pays_4 : decode cL_pays 4 = .ok (.istore 7, 2) := by decide +kernel
theorem dL_pays_6 : decode cL_pays 6 = .ok (.aload_n 0, 1) := by decide +kernel
theorem dL_pays_7 : decode cL_pays 7 = .ok (.aload_n 1, 1) := by decide +kernel
theorem dL_pays_8 : decode cL_pays 8 = .ok (.iload 4, 2) := by decide +kernel
theorem dL_pays_10 : decode cL_pays 10 = .ok (.invokestatic 258, 3) := by decide +kernel
theorem dL_pays_13 : decode cL_pays 13 = .ok (.lstore 8, 2) := by decide +kernel
theorem dL_pays_15 : decode cL_pays 15 = .ok (.aload_n 0, 1) := by decide +kernel
theorem dL_pays_16 : decode cL_pays 16 = .ok (.iload 4, 2) := by decide +kernel
theorem dL_pays_18 : decode cL_pays 18 = .ok (.invokestatic 262, 3) := by decide +kernel
theorem dL_pays_21 : decode cL_pays 21 = .ok (.l2i, 1) := by decide +kernel
theorem dL_pays_22 : decode cL_pays 22 = .ok (.istore 10, 2) := by decide +kernel
theorem dL_pays_24 : decode cL_pays 24 = .ok (.iload 10, 2) := by decide +kernel
theorem dL_pays_26 : decode cL_pays 26 = .ok (.ifCond .ge 7, 3) := by decide +kernel
theorem dL_pays_29 : decode cL_pays 29 = .ok (.lconst 0, 1) := by decide +kernel
theorem dL_pays_30 : decode cL_pays 30 = .ok (.goto 16, 3) := by decide +kernel
theorem dL_pays_33 : decode cL_pays 33 = .ok (.aload_n 0, 1) := by decide +kernel
theorem dL_pays_34 : decode cL_pays 34 = .ok (.iload 10, 2) := by decide +kernel
theorem dL_pays_36 : decode cL_pays 36 = .ok (.invokestatic 144, 3) := by decide +kernel
theorem dL_pays_39 : decode cL_pays 39 = .ok (.aload_n 0, 1) := by decide +kernel
theorem dL_pays_40 : decode cL_pays 40 = .ok (.iload 10, 2) := by decide +kernel
theorem dL_pays_42 : decode cL_pays 42 = .ok (.invokestatic 150, 3) := by decide +kernel
theorem dL_pays_45 : decode cL_pays 45 = .ok (.lsub, 1) := by decide +kernel
theorem dL_pays_46 : decode cL_pays 46 = .ok (.lstore 11, 2) := by decide +kernel
theorem dL_pays_48 : decode cL_pays 48 = .ok (.aload_n 0, 1) := by decide +kernel
theorem dL_pays_49 : decode cL_pays 49 = .ok (.iload 4, 2) := by decide +kernel
theorem dL_pays_51 : decode cL_pays 51 = .ok (.iload 6, 2) := by decide +kernel
theorem dL_pays_53 : decode cL_pays 53 = .ok (.invokestatic 194, 3) := by decide +kernel
theorem dL_pays_56 : decode cL_pays 56 = .ok (.lstore 13, 2) := by decide +kernel
theorem dL_pays_58 : decode cL_pays 58 = .ok (.iload 7, 2) := by decide +kernel
theorem dL_pays_60 : decode cL_pays 60 = .ok (.bipush 24, 2) := by decide +kernel
theorem dL_pays_62 : decode cL_pays 62 = .ok (.if_icmp .ne 27, 3) := by decide +kernel
theorem dL_pays_65 : decode cL_pays 65 = .ok (.lload 13, 2) := by decide +kernel
theorem dL_pays_67 : decode cL_pays 67 = .ok (.ldc2_w 21, 3) := by decide +kernel
theorem dL_pays_70 : decode cL_pays 70 = .ok (.lcmp, 1) := by decide +kernel
theorem dL_pays_71 : decode cL_pays 71 = .ok (.ifCond .ne 16, 3) := by decide +kernel
theorem dL_pays_74 : decode cL_pays 74 = .ok (.aload_n 0, 1) := by decide +kernel
theorem dL_pays_75 : decode cL_pays 75 = .ok (.invokevirtual 165, 3) := by decide +kernel
theorem dL_pays_78 : decode cL_pays 78 = .ok (.bipush 24, 2) := by decide +kernel
theorem dL_pays_80 : decode cL_pays 80 = .ok (.if_icmp .ne 7, 3) := by decide +kernel
theorem dL_pays_83 : decode cL_pays 83 = .ok (.iconst 1, 1) := by decide +kernel
theorem dL_pays_84 : decode cL_pays 84 = .ok (.goto 4, 3) := by decide +kernel
theorem dL_pays_87 : decode cL_pays 87 = .ok (.iconst 0, 1) := by decide +kernel
theorem dL_pays_88 : decode cL_pays 88 = .ok (.ireturn, 1) := by decide +kernel
theorem dL_pays_89 : decode cL_pays 89 = .ok (.aload_n 2, 1) := by decide +kernel
theorem dL_pays_90 : decode cL_pays 90 = .ok (.iload 7, 2) := by decide +kernel
theorem dL_pays_92 : decode cL_pays 92 = .ok (.iload 4, 2) := by decide +kernel
theorem dL_pays_94 : decode cL_pays 94 = .ok (.iastore, 1) := by decide +kernel
theorem dL_pays_95 : decode cL_pays 95 = .ok (.aload_n 3, 1) := by decide +kernel
theorem dL_pays_96 : decode cL_pays 96 = .ok (.iload 7, 2) := by decide +kernel
theorem dL_pays_98 : decode cL_pays 98 = .ok (.iload 6, 2) := by decide +kernel
theorem dL_pays_100 : decode cL_pays 100 = .ok (.iastore, 1) := by decide +kernel
theorem dL_pays_101 : decode cL_pays 101 = .ok (.iload 5, 2) := by decide +kernel
theorem dL_pays_103 : decode cL_pays 103 = .ok (.iconst 2, 1) := by decide +kernel
theorem dL_pays_104 : decode cL_pays 104 = .ok (.if_icmp .eq 10, 3) := by decide +kernel
theorem dL_pays_107 : decode cL_pays 107 = .ok (.lload 8, 2) := by decide +kernel
theorem dL_pays_109 : decode cL_pays 109 = .ok (.lconst 0, 1) := by decide +kernel
theorem dL_pays_110 : decode cL_pays 110 = .ok (.lcmp, 1) := by decide +kernel
theorem dL_pays_111 : decode cL_pays 111 = .ok (.ifCond .ne 9, 3) := by decide +kernel
theorem dL_pays_114 : decode cL_pays 114 = .ok (.iload 6, 2) := by decide +kernel
theorem dL_pays_116 : decode cL_pays 116 = .ok (.i2l, 1) := by decide +kernel
theorem dL_pays_117 : decode cL_pays 117 = .ok (.goto 22, 3) := by decide +kernel
theorem dL_pays_120 : decode cL_pays 120 = .ok (.iload 6, 2) := by decide +kernel
theorem dL_pays_122 : decode cL_pays 122 = .ok (.i2l, 1) := by decide +kernel
theorem dL_pays_123 : decode cL_pays 123 = .ok (.lload 8, 2) := by decide +kernel
theorem dL_pays_125 : decode cL_pays 125 = .ok (.lcmp, 1) := by decide +kernel
theorem dL_pays_126 : decode cL_pays 126 = .ok (.ifCond .le 12, 3) := by decide +kernel
theorem dL_pays_129 : decode cL_pays 129 = .ok (.iload 6, 2) := by decide +kernel
theorem dL_pays_131 : decode cL_pays 131 = .ok (.i2l, 1) := by decide +kernel
theorem dL_pays_132 : decode cL_pays 132 = .ok (.lload 8, 2) := by decide +kernel
theorem dL_pays_134 : decode cL_pays 134 = .ok (.lsub, 1) := by decide +kernel
theorem dL_pays_135 : decode cL_pays 135 = .ok (.goto 4, 3) := by decide +kernel
theorem dL_pays_138 : decode cL_pays 138 = .ok (.lconst 0, 1) := by decide +kernel
theorem dL_pays_139 : decode cL_pays 139 = .ok (.lstore 15, 2) := by decide +kernel
theorem dL_pays_141 : decode cL_pays 141 = .ok (.lload 13, 2) := by decide +kernel
theorem dL_pays_143 : decode cL_pays 143 = .ok (.iload 7, 2) := by decide +kernel
theorem dL_pays_145 : decode cL_pays 145 = .ok (.i2l, 1) := by decide +kernel
theorem dL_pays_146 : decode cL_pays 146 = .ok (.lcmp, 1) := by decide +kernel
theorem dL_pays_147 : decode cL_pays 147 = .ok (.ifCond .ne 114, 3) := by decide +kernel
theorem dL_pays_150 : decode cL_pays 150 = .ok (.aload_n 0, 1) := by decide +kernel
theorem dL_pays_151 : decode cL_pays 151 = .ok (.invokevirtual 165, 3) := by decide +kernel
theorem dL_pays_154 : decode cL_pays 154 = .ok (.iload 7, 2) := by decide +kernel
theorem dL_pays_156 : decode cL_pays 156 = .ok (.iconst 1, 1) := by decide +kernel
theorem dL_pays_157 : decode cL_pays 157 = .ok (.iadd, 1) := by decide +kernel
theorem dL_pays_158 : decode cL_pays 158 = .ok (.if_icmp .ne 103, 3) := by decide +kernel
theorem dL_pays_161 : decode cL_pays 161 = .ok (.iload 10, 2) := by decide +kernel
theorem dL_pays_163 : decode cL_pays 163 = .ok (.ifCond .ge 7, 3) := by decide +kernel
theorem dL_pays_166 : decode cL_pays 166 = .ok (.iconst 1, 1) := by decide +kernel
theorem dL_pays_167 : decode cL_pays 167 = .ok (.goto 4, 3) := by decide +kernel
theorem dL_pays_170 : decode cL_pays 170 = .ok (.iconst 0, 1) := by decide +kernel
theorem dL_pays_171 : decode cL_pays 171 = .ok (.lload 8, 2) := by decide +kernel
theorem dL_pays_173 : decode cL_pays 173 = .ok (.lconst 0, 1) := by decide +kernel
theorem dL_pays_174 : decode cL_pays 174 = .ok (.lcmp, 1) := by decide +kernel
theorem dL_pays_175 : decode cL_pays 175 = .ok (.ifCond .ne 7, 3) := by decide +kernel
theorem dL_pays_178 : decode cL_pays 178 = .ok (.iconst 1, 1) := by decide +kernel
theorem dL_pays_179 : decode cL_pays 179 = .ok (.goto 4, 3) := by decide +kernel
theorem dL_pays_182 : decode cL_pays 182 = .ok (.iconst 0, 1) := by decide +kernel
theorem dL_pays_183 : decode cL_pays 183 = .ok (.if_icmp .ne 78, 3) := by decide +kernel
theorem dL_pays_186 : decode cL_pays 186 = .ok (.aload_n 0, 1) := by decide +kernel
theorem dL_pays_187 : decode cL_pays 187 = .ok (.iload 7, 2) := by decide +kernel
theorem dL_pays_189 : decode cL_pays 189 = .ok (.invokestatic 168, 3) := by decide +kernel
theorem dL_pays_192 : decode cL_pays 192 = .ok (.lload 15, 2) := by decide +kernel
theorem dL_pays_194 : decode cL_pays 194 = .ok (.lcmp, 1) := by decide +kernel
theorem dL_pays_195 : decode cL_pays 195 = .ok (.ifCond .ne 66, 3) := by decide +kernel
theorem dL_pays_198 : decode cL_pays 198 = .ok (.aload_n 0, 1) := by decide +kernel
theorem dL_pays_199 : decode cL_pays 199 = .ok (.aload_n 1, 1) := by decide +kernel
theorem dL_pays_200 : decode cL_pays 200 = .ok (.iload 4, 2) := by decide +kernel
theorem dL_pays_202 : decode cL_pays 202 = .ok (.invokestatic 258, 3) := by decide +kernel
theorem dL_pays_205 : decode cL_pays 205 = .ok (.lload 8, 2) := by decide +kernel
theorem dL_pays_207 : decode cL_pays 207 = .ok (.iload 6, 2) := by decide +kernel
theorem dL_pays_209 : decode cL_pays 209 = .ok (.i2l, 1) := by decide +kernel
theorem dL_pays_210 : decode cL_pays 210 = .ok (.lload 15, 2) := by decide +kernel
theorem dL_pays_212 : decode cL_pays 212 = .ok (.lsub, 1) := by decide +kernel
theorem dL_pays_213 : decode cL_pays 213 = .ok (.lsub, 1) := by decide +kernel
theorem dL_pays_214 : decode cL_pays 214 = .ok (.lcmp, 1) := by decide +kernel
theorem dL_pays_215 : decode cL_pays 215 = .ok (.ifCond .ne 46, 3) := by decide +kernel
theorem dL_pays_218 : decode cL_pays 218 = .ok (.iload 5, 2) := by decide +kernel
theorem dL_pays_220 : decode cL_pays 220 = .ok (.ifCond .ne 37, 3) := by decide +kernel
theorem dL_pays_223 : decode cL_pays 223 = .ok (.iload 10, 2) := by decide +kernel
theorem dL_pays_225 : decode cL_pays 225 = .ok (.ifCond .lt 32, 3) := by decide +kernel
theorem dL_pays_228 : decode cL_pays 228 = .ok (.aload_n 0, 1) := by decide +kernel
theorem dL_pays_229 : decode cL_pays 229 = .ok (.iload 7, 2) := by decide +kernel
theorem dL_pays_231 : decode cL_pays 231 = .ok (.iload 10, 2) := by decide +kernel
theorem dL_pays_233 : decode cL_pays 233 = .ok (.invokestatic 230, 3) := by decide +kernel
theorem dL_pays_236 : decode cL_pays 236 = .ok (.iload 6, 2) := by decide +kernel
theorem dL_pays_238 : decode cL_pays 238 = .ok (.i2l, 1) := by decide +kernel
theorem dL_pays_239 : decode cL_pays 239 = .ok (.lload 11, 2) := by decide +kernel
theorem dL_pays_241 : decode cL_pays 241 = .ok (.lcmp, 1) := by decide +kernel
theorem dL_pays_242 : decode cL_pays 242 = .ok (.ifCond .ge 9, 3) := by decide +kernel
theorem dL_pays_245 : decode cL_pays 245 = .ok (.iload 6, 2) := by decide +kernel
theorem dL_pays_247 : decode cL_pays 247 = .ok (.i2l, 1) := by decide +kernel
theorem dL_pays_248 : decode cL_pays 248 = .ok (.goto 5, 3) := by decide +kernel
theorem dL_pays_251 : decode cL_pays 251 = .ok (.lload 11, 2) := by decide +kernel
theorem dL_pays_253 : decode cL_pays 253 = .ok (.lcmp, 1) := by decide +kernel
theorem dL_pays_254 : decode cL_pays 254 = .ok (.ifCond .ne 7, 3) := by decide +kernel
theorem dL_pays_257 : decode cL_pays 257 = .ok (.iconst 1, 1) := by decide +kernel
theorem dL_pays_258 : decode cL_pays 258 = .ok (.goto 4, 3) := by decide +kernel
theorem dL_pays_261 : decode cL_pays 261 = .ok (.iconst 0, 1) := by decide +kernel
theorem dL_pays_262 : decode cL_pays 262 = .ok (.ireturn, 1) := by decide +kernel
theorem dL_law_0 : decode cL_law 0 = .ok (.new 10, 3) := by decide +kernel
theorem dL_law_3 : decode cL_law 3 = .ok (.dup, 1) := by decide +kernel
theorem dL_law_4 : decode cL_law 4 = .ok (.invokespecial 264, 3) := by decide +kernel
theorem dL_law_7 : decode cL_law 7 = .ok (.astore_n 1, 1) := by decide +kernel
theorem dL_law_8 : decode cL_law 8 = .ok (.bipush 24, 2) := by decide +kernel
theorem dL_law_10 : decode cL_law 10 = .ok (.newarray .int, 2) := by decide +kernel
theorem dL_law_12 : decode cL_law 12 = .ok (.astore_n 2, 1) := by decide +kernel
theorem dL_law_13 : decode cL_law 13 = .ok (.bipush 24, 2) := by decide +kernel
theorem dL_law_15 : decode cL_law 15 = .ok (.newarray .int, 2) := by decide +kernel
theorem dL_law_17 : decode cL_law 17 = .ok (.astore_n 3, 1) := by decide +kernel
theorem dL_law_18 : decode cL_law 18 = .ok (.bipush 24, 2) := by decide +kernel
theorem dL_law_20 : decode cL_law 20 = .ok (.newarray .int, 2) := by decide +kernel
theorem dL_law_22 : decode cL_law 22 = .ok (.astore 4, 2) := by decide +kernel
theorem dL_law_24 : decode cL_law 24 = .ok (.bipush 24, 2) := by decide +kernel
theorem dL_law_26 : decode cL_law 26 = .ok (.newarray .int, 2) := by decide +kernel
theorem dL_law_28 : decode cL_law 28 = .ok (.astore 5, 2) := by decide +kernel
theorem dL_law_30 : decode cL_law 30 = .ok (.bipush 6, 2) := by decide +kernel
theorem dL_law_32 : decode cL_law 32 = .ok (.newarray .int, 2) := by decide +kernel
theorem dL_law_34 : decode cL_law 34 = .ok (.astore 6, 2) := by decide +kernel
theorem dL_law_36 : decode cL_law 36 = .ok (.aload_n 1, 1) := by decide +kernel
theorem dL_law_37 : decode cL_law 37 = .ok (.iconst 0, 1) := by decide +kernel
theorem dL_law_38 : decode cL_law 38 = .ok (.iconst 0, 1) := by decide +kernel
theorem dL_law_39 : decode cL_law 39 = .ok (.sipush 1200, 3) := by decide +kernel
theorem dL_law_42 : decode cL_law 42 = .ok (.invokestatic 174, 3) := by decide +kernel
theorem dL_law_45 : decode cL_law 45 = .ok (.lconst 0, 1) := by decide +kernel
theorem dL_law_46 : decode cL_law 46 = .ok (.lcmp, 1) := by decide +kernel
theorem dL_law_47 : decode cL_law 47 = .ok (.ifCond .ne 21, 3) := by decide +kernel
theorem dL_law_50 : decode cL_law 50 = .ok (.aload_n 1, 1) := by decide +kernel
theorem dL_law_51 : decode cL_law 51 = .ok (.iconst 1, 1) := by decide +kernel
theorem dL_law_52 : decode cL_law 52 = .ok (.iconst 2, 1) := by decide +kernel
theorem dL_law_53 : decode cL_law 53 = .ok (.sipush 3000, 3) := by decide +kernel
theorem dL_law_56 : decode cL_law 56 = .ok (.invokestatic 174, 3) := by decide +kernel
theorem dL_law_59 : decode cL_law 59 = .ok (.lconst 1, 1) := by decide +kernel
theorem dL_law_60 : decode cL_law 60 = .ok (.lcmp, 1) := by decide +kernel
theorem dL_law_61 : decode cL_law 61 = .ok (.ifCond .ne 7, 3) := by decide +kernel
theorem dL_law_64 : decode cL_law 64 = .ok (.iconst 1, 1) := by decide +kernel
theorem dL_law_65 : decode cL_law 65 = .ok (.goto 4, 3) := by decide +kernel
theorem dL_law_68 : decode cL_law 68 = .ok (.iconst 0, 1) := by decide +kernel
theorem dL_law_69 : decode cL_law 69 = .ok (.istore 7, 2) := by decide +kernel
theorem dL_law_71 : decode cL_law 71 = .ok (.aload 6, 2) := by decide +kernel
theorem dL_law_73 : decode cL_law 73 = .ok (.iconst 1, 1) := by decide +kernel
theorem dL_law_74 : decode cL_law 74 = .ok (.iconst 1, 1) := by decide +kernel
theorem dL_law_75 : decode cL_law 75 = .ok (.iastore, 1) := by decide +kernel
theorem dL_law_76 : decode cL_law 76 = .ok (.iconst 0, 1) := by decide +kernel
theorem dL_law_77 : decode cL_law 77 = .ok (.istore 8, 2) := by decide +kernel
theorem dL_law_79 : decode cL_law 79 = .ok (.iload 8, 2) := by decide +kernel
theorem dL_law_81 : decode cL_law 81 = .ok (.bipush 64, 2) := by decide +kernel
theorem dL_law_83 : decode cL_law 83 = .ok (.if_icmp .ge 1176, 3) := by decide +kernel
theorem dL_law_86 : decode cL_law 86 = .ok (.iload 7, 2) := by decide +kernel
theorem dL_law_88 : decode cL_law 88 = .ok (.ifCond .eq 1171, 3) := by decide +kernel
theorem dL_law_91 : decode cL_law 91 = .ok (.aload_n 0, 1) := by decide +kernel
theorem dL_law_92 : decode cL_law 92 = .ok (.iload 8, 2) := by decide +kernel
theorem dL_law_94 : decode cL_law 94 = .ok (.invokestatic 265, 3) := by decide +kernel
theorem dL_law_97 : decode cL_law 97 = .ok (.istore 9, 2) := by decide +kernel
theorem dL_law_99 : decode cL_law 99 = .ok (.iload 8, 2) := by decide +kernel
theorem dL_law_101 : decode cL_law 101 = .ok (.iconst 3, 1) := by decide +kernel
theorem dL_law_102 : decode cL_law 102 = .ok (.if_icmp .ge 7, 3) := by decide +kernel
theorem dL_law_105 : decode cL_law 105 = .ok (.iconst 0, 1) := by decide +kernel
theorem dL_law_106 : decode cL_law 106 = .ok (.goto 8, 3) := by decide +kernel
theorem dL_law_109 : decode cL_law 109 = .ok (.iload 9, 2) := by decide +kernel
theorem dL_law_111 : decode cL_law 111 = .ok (.bipush 16, 2) := by decide +kernel
theorem dL_law_113 : decode cL_law 113 = .ok (.irem, 1) := by decide +kernel
theorem dL_law_114 : decode cL_law 114 = .ok (.istore 10, 2) := by decide +kernel
theorem dL_law_116 : decode cL_law 116 = .ok (.iload 9, 2) := by decide +kernel
theorem dL_law_118 : decode cL_law 118 = .ok (.bipush 16, 2) := by decide +kernel
theorem dL_law_120 : decode cL_law 120 = .ok (.idiv, 1) := by decide +kernel
theorem dL_law_121 : decode cL_law 121 = .ok (.istore 11, 2) := by decide +kernel
theorem dL_law_123 : decode cL_law 123 = .ok (.iload 11, 2) := by decide +kernel
theorem dL_law_125 : decode cL_law 125 = .ok (.aload_n 1, 1) := by decide +kernel
theorem dL_law_126 : decode cL_law 126 = .ok (.invokevirtual 135, 3) := by decide +kernel
theorem dL_law_129 : decode cL_law 129 = .ok (.irem, 1) := by decide +kernel
theorem dL_law_130 : decode cL_law 130 = .ok (.istore 12, 2) := by decide +kernel
theorem dL_law_132 : decode cL_law 132 = .ok (.aload_n 1, 1) := by decide +kernel
theorem dL_law_133 : decode cL_law 133 = .ok (.invokevirtual 141, 3) := by decide +kernel
theorem dL_law_136 : decode cL_law 136 = .ok (.istore 13, 2) := by decide +kernel
theorem dL_law_138 : decode cL_law 138 = .ok (.iload 13, 2) := by decide +kernel
theorem dL_law_140 : decode cL_law 140 = .ok (.ifCond .ne 7, 3) := by decide +kernel
theorem dL_law_143 : decode cL_law 143 = .ok (.iconst 0, 1) := by decide +kernel
theorem dL_law_144 : decode cL_law 144 = .ok (.goto 11, 3) := by decide +kernel
theorem dL_law_147 : decode cL_law 147 = .ok (.iload 11, 2) := by decide +kernel
theorem dL_law_149 : decode cL_law 149 = .ok (.bipush 8, 2) := by decide +kernel
theorem dL_law_151 : decode cL_law 151 = .ok (.idiv, 1) := by decide +kernel
theorem dL_law_152 : decode cL_law 152 = .ok (.iload 13, 2) := by decide +kernel
theorem dL_law_154 : decode cL_law 154 = .ok (.irem, 1) := by decide +kernel
theorem dL_law_155 : decode cL_law 155 = .ok (.istore 14, 2) := by decide +kernel
theorem dL_law_157 : decode cL_law 157 = .ok (.aload_n 1, 1) := by decide +kernel
theorem dL_law_158 : decode cL_law 158 = .ok (.invokevirtual 165, 3) := by decide +kernel
theorem dL_law_161 : decode cL_law 161 = .ok (.ifCond .ne 7, 3) := by decide +kernel
theorem dL_law_164 : decode cL_law 164 = .ok (.iconst 0, 1) := by decide +kernel
theorem dL_law_165 : decode cL_law 165 = .ok (.goto 12, 3) := by decide +kernel
theorem dL_law_168 : decode cL_law 168 = .ok (.iload 11, 2) := by decide +kernel
theorem dL_law_170 : decode cL_law 170 = .ok (.iconst 4, 1) := by decide +kernel
theorem dL_law_171 : decode cL_law 171 = .ok (.idiv, 1) := by decide +kernel
theorem dL_law_172 : decode cL_law 172 = .ok (.aload_n 1, 1) := by decide +kernel
theorem dL_law_173 : decode cL_law 173 = .ok (.invokevirtual 165, 3) := by decide +kernel
theorem dL_law_176 : decode cL_law 176 = .ok (.irem, 1) := by decide +kernel
theorem dL_law_177 : decode cL_law 177 = .ok (.istore 15, 2) := by decide +kernel
theorem dL_law_179 : decode cL_law 179 = .ok (.iload 10, 2) := by decide +kernel
theorem dL_law_181 : decode cL_law 181 = .ok (.iconst 4, 1) := by decide +kernel
theorem dL_law_182 : decode cL_law 182 = .ok (.if_icmp .ge 86, 3) := by decide +kernel
theorem dL_law_185 : decode cL_law 185 = .ok (.aload_n 2, 1) := by decide +kernel
theorem dL_law_186 : decode cL_law 186 = .ok (.iload 13, 2) := by decide +kernel
theorem dL_law_188 : decode cL_law 188 = .ok (.bipush 24, 2) := by decide +kernel
theorem dL_law_190 : decode cL_law 190 = .ok (.if_icmp .ge 8, 3) := by decide +kernel
theorem dL_law_193 : decode cL_law 193 = .ok (.iload 13, 2) := by decide +kernel
theorem dL_law_195 : decode cL_law 195 = .ok (.goto 5, 3) := by decide +kernel
theorem dL_law_198 : decode cL_law 198 = .ok (.bipush 23, 2) := by decide +kernel
theorem dL_law_200 : decode cL_law 200 = .ok (.iload 13, 2) := by decide +kernel
theorem dL_law_202 : decode cL_law 202 = .ok (.bipush 24, 2) := by decide +kernel
theorem dL_law_204 : decode cL_law 204 = .ok (.if_icmp .ge 8, 3) := by decide +kernel
theorem dL_law_207 : decode cL_law 207 = .ok (.iload 12, 2) := by decide +kernel
theorem dL_law_209 : decode cL_law 209 = .ok (.goto 7, 3) := by decide +kernel
theorem dL_law_212 : decode cL_law 212 = .ok (.aload_n 2, 1) := by decide +kernel
theorem dL_law_213 : decode cL_law 213 = .ok (.bipush 23, 2) := by decide +kernel
theorem dL_law_215 : decode cL_law 215 = .ok (.iaload, 1) := by decide +kernel
theorem dL_law_216 : decode cL_law 216 = .ok (.iastore, 1) := by decide +kernel
theorem dL_law_217 : decode cL_law 217 = .ok (.aload_n 1, 1) := by decide +kernel
theorem dL_law_218 : decode cL_law 218 = .ok (.iload 12, 2) := by decide +kernel
theorem dL_law_220 : decode cL_law 220 = .ok (.iconst 1, 1) := by decide +kernel
theorem dL_law_221 : decode cL_law 221 = .ok (.iload 11, 2) := by decide +kernel
theorem dL_law_223 : decode cL_law 223 = .ok (.sipush 9973, 3) := by decide +kernel
theorem dL_law_226 : decode cL_law 226 = .ok (.irem, 1) := by decide +kernel
theorem dL_law_227 : decode cL_law 227 = .ok (.iadd, 1) := by decide +kernel
theorem dL_law_228 : decode cL_law 228 = .ok (.iload 11, 2) := by decide +kernel
theorem dL_law_230 : decode cL_law 230 = .ok (.iconst 3, 1) := by decide +kernel
theorem dL_law_231 : decode cL_law 231 = .ok (.idiv, 1) := by decide +kernel
theorem dL_law_232 : decode cL_law 232 = .ok (.bipush 40, 2) := by decide +kernel
theorem dL_law_234 : decode cL_law 234 = .ok (.irem, 1) := by decide +kernel
theorem dL_law_235 : decode cL_law 235 = .ok (.invokestatic 191, 3) := by decide +kernel
theorem dL_law_238 : decode cL_law 238 = .ok (.iload 13, 2) := by decide +kernel
theorem dL_law_240 : decode cL_law 240 = .ok (.bipush 24, 2) := by decide +kernel
theorem dL_law_242 : decode cL_law 242 = .ok (.if_icmp .ne 9, 3) := by decide +kernel
theorem dL_law_245 : decode cL_law 245 = .ok (.ldc2_w 21, 3) := by decide +kernel
theorem dL_law_248 : decode cL_law 248 = .ok (.goto 6, 3) := by decide +kernel
theorem dL_law_251 : decode cL_law 251 = .ok (.iload 13, 2) := by decide +kernel
theorem dL_law_253 : decode cL_law 253 = .ok (.i2l, 1) := by decide +kernel
theorem dL_law_254 : decode cL_law 254 = .ok (.lcmp, 1) := by decide +kernel
theorem dL_law_255 : decode cL_law 255 = .ok (.ifCond .ne 7, 3) := by decide +kernel
theorem dL_law_258 : decode cL_law 258 = .ok (.iconst 1, 1) := by decide +kernel
theorem dL_law_259 : decode cL_law 259 = .ok (.goto 4, 3) := by decide +kernel
theorem dL_law_262 : decode cL_law 262 = .ok (.iconst 0, 1) := by decide +kernel
theorem dL_law_263 : decode cL_law 263 = .ok (.istore 7, 2) := by decide +kernel
theorem dL_law_265 : decode cL_law 265 = .ok (.goto 946, 3) := by decide +kernel
theorem dL_law_268 : decode cL_law 268 = .ok (.iload 10, 2) := by decide +kernel
theorem dL_law_270 : decode cL_law 270 = .ok (.bipush 7, 2) := by decide +kernel
theorem dL_law_272 : decode cL_law 272 = .ok (.if_icmp .ge 32, 3) := by decide +kernel
theorem dL_law_275 : decode cL_law 275 = .ok (.aload_n 1, 1) := by decide +kernel
theorem dL_law_276 : decode cL_law 276 = .ok (.aload_n 2, 1) := by decide +kernel
theorem dL_law_277 : decode cL_law 277 = .ok (.aload 4, 2) := by decide +kernel
theorem dL_law_279 : decode cL_law 279 = .ok (.aload 5, 2) := by decide +kernel
theorem dL_law_281 : decode cL_law 281 = .ok (.iload 12, 2) := by decide +kernel
theorem dL_law_283 : decode cL_law 283 = .ok (.aload 6, 2) := by decide +kernel
theorem dL_law_285 : decode cL_law 285 = .ok (.iload 12, 2) := by decide +kernel
theorem dL_law_287 : decode cL_law 287 = .ok (.iaload, 1) := by decide +kernel
theorem dL_law_288 : decode cL_law 288 = .ok (.iconst 1, 1) := by decide +kernel
theorem dL_law_289 : decode cL_law 289 = .ok (.iload 11, 2) := by decide +kernel
theorem dL_law_291 : decode cL_law 291 = .ok (.sipush 7919, 3) := by decide +kernel
theorem dL_law_294 : decode cL_law 294 = .ok (.irem, 1) := by decide +kernel
theorem dL_law_295 : decode cL_law 295 = .ok (.iadd, 1) := by decide +kernel
theorem dL_law_296 : decode cL_law 296 = .ok (.invokestatic 269, 3) := by decide +kernel
theorem dL_law_299 : decode cL_law 299 = .ok (.istore 7, 2) := by decide +kernel
theorem dL_law_301 : decode cL_law 301 = .ok (.goto 910, 3) := by decide +kernel
theorem dL_law_304 : decode cL_law 304 = .ok (.iload 10, 2) := by decide +kernel
theorem dL_law_306 : decode cL_law 306 = .ok (.bipush 8, 2) := by decide +kernel
theorem dL_law_308 : decode cL_law 308 = .ok (.if_icmp .ge 64, 3) := by decide +kernel
theorem dL_law_311 : decode cL_law 311 = .ok (.aload_n 1, 1) := by decide +kernel
theorem dL_law_312 : decode cL_law 312 = .ok (.invokevirtual 131, 3) := by decide +kernel
theorem dL_law_315 : decode cL_law 315 = .ok (.i2l, 1) := by decide +kernel
theorem dL_law_316 : decode cL_law 316 = .ok (.lstore 16, 2) := by decide +kernel
theorem dL_law_318 : decode cL_law 318 = .ok (.lconst 1, 1) := by decide +kernel
theorem dL_law_319 : decode cL_law 319 = .ok (.iload 11, 2) := by decide +kernel
theorem dL_law_321 : decode cL_law 321 = .ok (.bipush 45, 2) := by decide +kernel
theorem dL_law_323 : decode cL_law 323 = .ok (.irem, 1) := by decide +kernel
theorem dL_law_324 : decode cL_law 324 = .ok (.i2l, 1) := by decide +kernel
theorem dL_law_325 : decode cL_law 325 = .ok (.ladd, 1) := by decide +kernel
theorem dL_law_326 : decode cL_law 326 = .ok (.lstore 18, 2) := by decide +kernel
theorem dL_law_328 : decode cL_law 328 = .ok (.aload_n 1, 1) := by decide +kernel
theorem dL_law_329 : decode cL_law 329 = .ok (.lload 18, 2) := by decide +kernel
theorem dL_law_331 : decode cL_law 331 = .ok (.l2i, 1) := by decide +kernel
theorem dL_law_332 : decode cL_law 332 = .ok (.invokestatic 188, 3) := by decide +kernel
theorem dL_law_335 : decode cL_law 335 = .ok (.lload 16, 2) := by decide +kernel
theorem dL_law_337 : decode cL_law 337 = .ok (.lload 18, 2) := by decide +kernel
theorem dL_law_339 : decode cL_law 339 = .ok (.ladd, 1) := by decide +kernel
theorem dL_law_340 : decode cL_law 340 = .ok (.ldc2_w 273, 3) := by decide +kernel
theorem dL_law_343 : decode cL_law 343 = .ok (.lcmp, 1) := by decide +kernel
theorem dL_law_344 : decode cL_law 344 = .ok (.ifCond .le 9, 3) := by decide +kernel
theorem dL_law_347 : decode cL_law 347 = .ok (.ldc2_w 21, 3) := by decide +kernel
theorem dL_law_350 : decode cL_law 350 = .ok (.goto 8, 3) := by decide +kernel
theorem dL_law_353 : decode cL_law 353 = .ok (.lload 16, 2) := by decide +kernel
theorem dL_law_355 : decode cL_law 355 = .ok (.lload 18, 2) := by decide +kernel
theorem dL_law_357 : decode cL_law 357 = .ok (.ladd, 1) := by decide +kernel
theorem dL_law_358 : decode cL_law 358 = .ok (.lcmp, 1) := by decide +kernel
theorem dL_law_359 : decode cL_law 359 = .ok (.ifCond .ne 7, 3) := by decide +kernel
theorem dL_law_362 : decode cL_law 362 = .ok (.iconst 1, 1) := by decide +kernel
theorem dL_law_363 : decode cL_law 363 = .ok (.goto 4, 3) := by decide +kernel
theorem dL_law_366 : decode cL_law 366 = .ok (.iconst 0, 1) := by decide +kernel
theorem dL_law_367 : decode cL_law 367 = .ok (.istore 7, 2) := by decide +kernel
theorem dL_law_369 : decode cL_law 369 = .ok (.goto 842, 3) := by decide +kernel
theorem dL_law_372 : decode cL_law 372 = .ok (.iload 10, 2) := by decide +kernel
theorem dL_law_374 : decode cL_law 374 = .ok (.bipush 9, 2) := by decide +kernel
theorem dL_law_376 : decode cL_law 376 = .ok (.if_icmp .ge 114, 3) := by decide +kernel
theorem dL_law_379 : decode cL_law 379 = .ok (.aload_n 1, 1) := by decide +kernel
theorem dL_law_380 : decode cL_law 380 = .ok (.aload_n 2, 1) := by decide +kernel
theorem dL_law_381 : decode cL_law 381 = .ok (.iload 12, 2) := by decide +kernel
theorem dL_law_383 : decode cL_law 383 = .ok (.invokestatic 258, 3) := by decide +kernel
theorem dL_law_386 : decode cL_law 386 = .ok (.lstore 16, 2) := by decide +kernel
theorem dL_law_388 : decode cL_law 388 = .ok (.iconst 1, 1) := by decide +kernel
theorem dL_law_389 : decode cL_law 389 = .ok (.iload 11, 2) := by decide +kernel
theorem dL_law_391 : decode cL_law 391 = .ok (.sipush 3000, 3) := by decide +kernel
theorem dL_law_394 : decode cL_law 394 = .ok (.irem, 1) := by decide +kernel
theorem dL_law_395 : decode cL_law 395 = .ok (.iadd, 1) := by decide +kernel
theorem dL_law_396 : decode cL_law 396 = .ok (.istore 18, 2) := by decide +kernel
theorem dL_law_398 : decode cL_law 398 = .ok (.aload_n 1, 1) := by decide +kernel
theorem dL_law_399 : decode cL_law 399 = .ok (.iload 12, 2) := by decide +kernel
theorem dL_law_401 : decode cL_law 401 = .ok (.iload 18, 2) := by decide +kernel
theorem dL_law_403 : decode cL_law 403 = .ok (.invokestatic 208, 3) := by decide +kernel
theorem dL_law_406 : decode cL_law 406 = .ok (.lstore 19, 2) := by decide +kernel
theorem dL_law_408 : decode cL_law 408 = .ok (.iload 18, 2) := by decide +kernel
theorem dL_law_410 : decode cL_law 410 = .ok (.i2l, 1) := by decide +kernel
theorem dL_law_411 : decode cL_law 411 = .ok (.lload 16, 2) := by decide +kernel
theorem dL_law_413 : decode cL_law 413 = .ok (.lcmp, 1) := by decide +kernel
theorem dL_law_414 : decode cL_law 414 = .ok (.ifCond .le 33, 3) := by decide +kernel
theorem dL_law_417 : decode cL_law 417 = .ok (.lload 19, 2) := by decide +kernel
theorem dL_law_419 : decode cL_law 419 = .ok (.ldc2_w 21, 3) := by decide +kernel
theorem dL_law_422 : decode cL_law 422 = .ok (.lcmp, 1) := by decide +kernel
theorem dL_law_423 : decode cL_law 423 = .ok (.ifCond .ne 20, 3) := by decide +kernel
theorem dL_law_426 : decode cL_law 426 = .ok (.aload_n 1, 1) := by decide +kernel
theorem dL_law_427 : decode cL_law 427 = .ok (.aload_n 2, 1) := by decide +kernel
theorem dL_law_428 : decode cL_law 428 = .ok (.iload 12, 2) := by decide +kernel
theorem dL_law_430 : decode cL_law 430 = .ok (.invokestatic 258, 3) := by decide +kernel
theorem dL_law_433 : decode cL_law 433 = .ok (.lload 16, 2) := by decide +kernel
theorem dL_law_435 : decode cL_law 435 = .ok (.lcmp, 1) := by decide +kernel
theorem dL_law_436 : decode cL_law 436 = .ok (.ifCond .ne 7, 3) := by decide +kernel
theorem dL_law_439 : decode cL_law 439 = .ok (.iconst 1, 1) := by decide +kernel
theorem dL_law_440 : decode cL_law 440 = .ok (.goto 45, 3) := by decide +kernel
theorem dL_law_443 : decode cL_law 443 = .ok (.iconst 0, 1) := by decide +kernel
theorem dL_law_444 : decode cL_law 444 = .ok (.goto 41, 3) := by decide +kernel
theorem dL_law_447 : decode cL_law 447 = .ok (.lload 19, 2) := by decide +kernel
theorem dL_law_449 : decode cL_law 449 = .ok (.lconst 1, 1) := by decide +kernel
theorem dL_law_450 : decode cL_law 450 = .ok (.lcmp, 1) := by decide +kernel
theorem dL_law_451 : decode cL_law 451 = .ok (.ifCond .lt 33, 3) := by decide +kernel
theorem dL_law_454 : decode cL_law 454 = .ok (.lload 19, 2) := by decide +kernel
theorem dL_law_456 : decode cL_law 456 = .ok (.iload 18, 2) := by decide +kernel
theorem dL_law_458 : decode cL_law 458 = .ok (.i2l, 1) := by decide +kernel
theorem dL_law_459 : decode cL_law 459 = .ok (.lcmp, 1) := by decide +kernel
theorem dL_law_460 : decode cL_law 460 = .ok (.ifCond .gt 24, 3) := by decide +kernel
theorem dL_law_463 : decode cL_law 463 = .ok (.aload_n 1, 1) := by decide +kernel
theorem dL_law_464 : decode cL_law 464 = .ok (.aload_n 2, 1) := by decide +kernel
theorem dL_law_465 : decode cL_law 465 = .ok (.iload 12, 2) := by decide +kernel
theorem dL_law_467 : decode cL_law 467 = .ok (.invokestatic 258, 3) := by decide +kernel
theorem dL_law_470 : decode cL_law 470 = .ok (.lload 16, 2) := by decide +kernel
theorem dL_law_472 : decode cL_law 472 = .ok (.iload 18, 2) := by decide +kernel
theorem dL_law_474 : decode cL_law 474 = .ok (.i2l, 1) := by decide +kernel
theorem dL_law_475 : decode cL_law 475 = .ok (.lsub, 1) := by decide +kernel
theorem dL_law_476 : decode cL_law 476 = .ok (.lcmp, 1) := by decide +kernel
theorem dL_law_477 : decode cL_law 477 = .ok (.ifCond .ne 7, 3) := by decide +kernel
theorem dL_law_480 : decode cL_law 480 = .ok (.iconst 1, 1) := by decide +kernel
theorem dL_law_481 : decode cL_law 481 = .ok (.goto 4, 3) := by decide +kernel
theorem dL_law_484 : decode cL_law 484 = .ok (.iconst 0, 1) := by decide +kernel
theorem dL_law_485 : decode cL_law 485 = .ok (.istore 7, 2) := by decide +kernel
theorem dL_law_487 : decode cL_law 487 = .ok (.goto 724, 3) := by decide +kernel
theorem dL_law_490 : decode cL_law 490 = .ok (.iload 10, 2) := by decide +kernel
theorem dL_law_492 : decode cL_law 492 = .ok (.bipush 10, 2) := by decide +kernel
theorem dL_law_494 : decode cL_law 494 = .ok (.if_icmp .ge 39, 3) := by decide +kernel
theorem dL_law_497 : decode cL_law 497 = .ok (.aload_n 1, 1) := by decide +kernel
theorem dL_law_498 : decode cL_law 498 = .ok (.iload 12, 2) := by decide +kernel
theorem dL_law_500 : decode cL_law 500 = .ok (.invokestatic 199, 3) := by decide +kernel
theorem dL_law_503 : decode cL_law 503 = .ok (.lstore 16, 2) := by decide +kernel
theorem dL_law_505 : decode cL_law 505 = .ok (.lload 16, 2) := by decide +kernel
theorem dL_law_507 : decode cL_law 507 = .ok (.lconst 0, 1) := by decide +kernel
theorem dL_law_508 : decode cL_law 508 = .ok (.lcmp, 1) := by decide +kernel
theorem dL_law_509 : decode cL_law 509 = .ok (.ifCond .lt 18, 3) := by decide +kernel
theorem dL_law_512 : decode cL_law 512 = .ok (.aload_n 1, 1) := by decide +kernel
theorem dL_law_513 : decode cL_law 513 = .ok (.iload 12, 2) := by decide +kernel
theorem dL_law_515 : decode cL_law 515 = .ok (.invokestatic 199, 3) := by decide +kernel
theorem dL_law_518 : decode cL_law 518 = .ok (.lconst 0, 1) := by decide +kernel
theorem dL_law_519 : decode cL_law 519 = .ok (.lcmp, 1) := by decide +kernel
theorem dL_law_520 : decode cL_law 520 = .ok (.ifCond .ne 7, 3) := by decide +kernel
theorem dL_law_523 : decode cL_law 523 = .ok (.iconst 1, 1) := by decide +kernel
theorem dL_law_524 : decode cL_law 524 = .ok (.goto 4, 3) := by decide +kernel
theorem dL_law_527 : decode cL_law 527 = .ok (.iconst 0, 1) := by decide +kernel
theorem dL_law_528 : decode cL_law 528 = .ok (.istore 7, 2) := by decide +kernel
theorem dL_law_530 : decode cL_law 530 = .ok (.goto 681, 3) := by decide +kernel
theorem dL_law_533 : decode cL_law 533 = .ok (.iload 10, 2) := by decide +kernel
theorem dL_law_535 : decode cL_law 535 = .ok (.bipush 11, 2) := by decide +kernel
theorem dL_law_537 : decode cL_law 537 = .ok (.if_icmp .ge 186, 3) := by decide +kernel
theorem dL_law_540 : decode cL_law 540 = .ok (.aload_n 1, 1) := by decide +kernel
theorem dL_law_541 : decode cL_law 541 = .ok (.aload_n 2, 1) := by decide +kernel
theorem dL_law_542 : decode cL_law 542 = .ok (.iload 12, 2) := by decide +kernel
theorem dL_law_544 : decode cL_law 544 = .ok (.invokestatic 275, 3) := by decide +kernel
theorem dL_law_547 : decode cL_law 547 = .ok (.lstore 16, 2) := by decide +kernel
theorem dL_law_549 : decode cL_law 549 = .ok (.aload_n 1, 1) := by decide +kernel
theorem dL_law_550 : decode cL_law 550 = .ok (.iload 12, 2) := by decide +kernel
theorem dL_law_552 : decode cL_law 552 = .ok (.iload 11, 2) := by decide +kernel
theorem dL_law_554 : decode cL_law 554 = .ok (.bipush 30, 2) := by decide +kernel
theorem dL_law_556 : decode cL_law 556 = .ok (.irem, 1) := by decide +kernel
theorem dL_law_557 : decode cL_law 557 = .ok (.invokestatic 212, 3) := by decide +kernel
theorem dL_law_560 : decode cL_law 560 = .ok (.lstore 18, 2) := by decide +kernel
theorem dL_law_562 : decode cL_law 562 = .ok (.aload_n 2, 1) := by decide +kernel
theorem dL_law_563 : decode cL_law 563 = .ok (.iload 13, 2) := by decide +kernel
theorem dL_law_565 : decode cL_law 565 = .ok (.bipush 24, 2) := by decide +kernel
theorem dL_law_567 : decode cL_law 567 = .ok (.if_icmp .ge 15, 3) := by decide +kernel
theorem dL_law_570 : decode cL_law 570 = .ok (.lload 16, 2) := by decide +kernel
theorem dL_law_572 : decode cL_law 572 = .ok (.lconst 0, 1) := by decide +kernel
theorem dL_law_573 : decode cL_law 573 = .ok (.lcmp, 1) := by decide +kernel
theorem dL_law_574 : decode cL_law 574 = .ok (.ifCond .le 8, 3) := by decide +kernel
theorem dL_law_577 : decode cL_law 577 = .ok (.iload 13, 2) := by decide +kernel
theorem dL_law_579 : decode cL_law 579 = .ok (.goto 5, 3) := by decide +kernel
theorem dL_law_582 : decode cL_law 582 = .ok (.bipush 23, 2) := by decide +kernel
theorem dL_law_584 : decode cL_law 584 = .ok (.iload 13, 2) := by decide +kernel
theorem dL_law_586 : decode cL_law 586 = .ok (.bipush 24, 2) := by decide +kernel
theorem dL_law_588 : decode cL_law 588 = .ok (.if_icmp .ge 15, 3) := by decide +kernel
theorem dL_law_591 : decode cL_law 591 = .ok (.lload 16, 2) := by decide +kernel
theorem dL_law_593 : decode cL_law 593 = .ok (.lconst 0, 1) := by decide +kernel
theorem dL_law_594 : decode cL_law 594 = .ok (.lcmp, 1) := by decide +kernel
theorem dL_law_595 : decode cL_law 595 = .ok (.ifCond .le 8, 3) := by decide +kernel
theorem dL_law_598 : decode cL_law 598 = .ok (.iload 12, 2) := by decide +kernel
theorem dL_law_600 : decode cL_law 600 = .ok (.goto 7, 3) := by decide +kernel
theorem dL_law_603 : decode cL_law 603 = .ok (.aload_n 2, 1) := by decide +kernel
theorem dL_law_604 : decode cL_law 604 = .ok (.bipush 23, 2) := by decide +kernel
theorem dL_law_606 : decode cL_law 606 = .ok (.iaload, 1) := by decide +kernel
theorem dL_law_607 : decode cL_law 607 = .ok (.iastore, 1) := by decide +kernel
theorem dL_law_608 : decode cL_law 608 = .ok (.lload 16, 2) := by decide +kernel
theorem dL_law_610 : decode cL_law 610 = .ok (.lconst 0, 1) := by decide +kernel
theorem dL_law_611 : decode cL_law 611 = .ok (.lcmp, 1) := by decide +kernel
theorem dL_law_612 : decode cL_law 612 = .ok (.ifCond .ne 20, 3) := by decide +kernel
theorem dL_law_615 : decode cL_law 615 = .ok (.lload 18, 2) := by decide +kernel
theorem dL_law_617 : decode cL_law 617 = .ok (.ldc2_w 244, 3) := by decide +kernel
theorem dL_law_620 : decode cL_law 620 = .ok (.lcmp, 1) := by decide +kernel
theorem dL_law_621 : decode cL_law 621 = .ok (.ifCond .ne 7, 3) := by decide +kernel
theorem dL_law_624 : decode cL_law 624 = .ok (.iconst 1, 1) := by decide +kernel
theorem dL_law_625 : decode cL_law 625 = .ok (.goto 93, 3) := by decide +kernel
theorem dL_law_628 : decode cL_law 628 = .ok (.iconst 0, 1) := by decide +kernel
theorem dL_law_629 : decode cL_law 629 = .ok (.goto 89, 3) := by decide +kernel
theorem dL_law_632 : decode cL_law 632 = .ok (.iload 13, 2) := by decide +kernel
theorem dL_law_634 : decode cL_law 634 = .ok (.bipush 24, 2) := by decide +kernel
theorem dL_law_636 : decode cL_law 636 = .ok (.if_icmp .ne 33, 3) := by decide +kernel
theorem dL_law_639 : decode cL_law 639 = .ok (.lload 18, 2) := by decide +kernel
theorem dL_law_641 : decode cL_law 641 = .ok (.ldc2_w 21, 3) := by decide +kernel
theorem dL_law_644 : decode cL_law 644 = .ok (.lcmp, 1) := by decide +kernel
theorem dL_law_645 : decode cL_law 645 = .ok (.ifCond .ne 20, 3) := by decide +kernel
theorem dL_law_648 : decode cL_law 648 = .ok (.aload_n 1, 1) := by decide +kernel
theorem dL_law_649 : decode cL_law 649 = .ok (.aload_n 2, 1) := by decide +kernel
theorem dL_law_650 : decode cL_law 650 = .ok (.iload 12, 2) := by decide +kernel
theorem dL_law_652 : decode cL_law 652 = .ok (.invokestatic 275, 3) := by decide +kernel
theorem dL_law_655 : decode cL_law 655 = .ok (.lload 16, 2) := by decide +kernel
theorem dL_law_657 : decode cL_law 657 = .ok (.lcmp, 1) := by decide +kernel
theorem dL_law_658 : decode cL_law 658 = .ok (.ifCond .ne 7, 3) := by decide +kernel
theorem dL_law_661 : decode cL_law 661 = .ok (.iconst 1, 1) := by decide +kernel
theorem dL_law_662 : decode cL_law 662 = .ok (.goto 56, 3) := by decide +kernel
theorem dL_law_665 : decode cL_law 665 = .ok (.iconst 0, 1) := by decide +kernel
theorem dL_law_666 : decode cL_law 666 = .ok (.goto 52, 3) := by decide +kernel
theorem dL_law_669 : decode cL_law 669 = .ok (.lload 18, 2) := by decide +kernel
theorem dL_law_671 : decode cL_law 671 = .ok (.iload 13, 2) := by decide +kernel
theorem dL_law_673 : decode cL_law 673 = .ok (.i2l, 1) := by decide +kernel
theorem dL_law_674 : decode cL_law 674 = .ok (.lcmp, 1) := by decide +kernel
theorem dL_law_675 : decode cL_law 675 = .ok (.ifCond .ne 42, 3) := by decide +kernel
theorem dL_law_678 : decode cL_law 678 = .ok (.aload_n 1, 1) := by decide +kernel
theorem dL_law_679 : decode cL_law 679 = .ok (.iload 13, 2) := by decide +kernel
theorem dL_law_681 : decode cL_law 681 = .ok (.invokestatic 227, 3) := by decide +kernel
theorem dL_law_684 : decode cL_law 684 = .ok (.lload 16, 2) := by decide +kernel
theorem dL_law_686 : decode cL_law 686 = .ok (.lcmp, 1) := by decide +kernel
theorem dL_law_687 : decode cL_law 687 = .ok (.ifCond .ne 30, 3) := by decide +kernel
theorem dL_law_690 : decode cL_law 690 = .ok (.aload_n 1, 1) := by decide +kernel
theorem dL_law_691 : decode cL_law 691 = .ok (.iload 13, 2) := by decide +kernel
theorem dL_law_693 : decode cL_law 693 = .ok (.invokestatic 255, 3) := by decide +kernel
theorem dL_law_696 : decode cL_law 696 = .ok (.lconst 1, 1) := by decide +kernel
theorem dL_law_697 : decode cL_law 697 = .ok (.lcmp, 1) := by decide +kernel
theorem dL_law_698 : decode cL_law 698 = .ok (.ifCond .ne 19, 3) := by decide +kernel
theorem dL_law_701 : decode cL_law 701 = .ok (.aload_n 1, 1) := by decide +kernel
theorem dL_law_702 : decode cL_law 702 = .ok (.aload_n 2, 1) := by decide +kernel
theorem dL_law_703 : decode cL_law 703 = .ok (.iload 12, 2) := by decide +kernel
theorem dL_law_705 : decode cL_law 705 = .ok (.invokestatic 275, 3) := by decide +kernel
theorem dL_law_708 : decode cL_law 708 = .ok (.lconst 0, 1) := by decide +kernel
theorem dL_law_709 : decode cL_law 709 = .ok (.lcmp, 1) := by decide +kernel
theorem dL_law_710 : decode cL_law 710 = .ok (.ifCond .ne 7, 3) := by decide +kernel
theorem dL_law_713 : decode cL_law 713 = .ok (.iconst 1, 1) := by decide +kernel
theorem dL_law_714 : decode cL_law 714 = .ok (.goto 4, 3) := by decide +kernel
theorem dL_law_717 : decode cL_law 717 = .ok (.iconst 0, 1) := by decide +kernel
theorem dL_law_718 : decode cL_law 718 = .ok (.istore 7, 2) := by decide +kernel
theorem dL_law_720 : decode cL_law 720 = .ok (.goto 491, 3) := by decide +kernel
theorem dL_law_723 : decode cL_law 723 = .ok (.iload 10, 2) := by decide +kernel
theorem dL_law_725 : decode cL_law 725 = .ok (.bipush 12, 2) := by decide +kernel
theorem dL_law_727 : decode cL_law 727 = .ok (.if_icmp .ge 73, 3) := by decide +kernel
theorem dL_law_730 : decode cL_law 730 = .ok (.iload 11, 2) := by decide +kernel
theorem dL_law_732 : decode cL_law 732 = .ok (.bipush 8, 2) := by decide +kernel
theorem dL_law_734 : decode cL_law 734 = .ok (.idiv, 1) := by decide +kernel
theorem dL_law_735 : decode cL_law 735 = .ok (.iconst 3, 1) := by decide +kernel
theorem dL_law_736 : decode cL_law 736 = .ok (.irem, 1) := by decide +kernel
theorem dL_law_737 : decode cL_law 737 = .ok (.istore 16, 2) := by decide +kernel
theorem dL_law_739 : decode cL_law 739 = .ok (.aload_n 1, 1) := by decide +kernel
theorem dL_law_740 : decode cL_law 740 = .ok (.iload 12, 2) := by decide +kernel
theorem dL_law_742 : decode cL_law 742 = .ok (.iload 16, 2) := by decide +kernel
theorem dL_law_744 : decode cL_law 744 = .ok (.invokestatic 178, 3) := by decide +kernel
theorem dL_law_747 : decode cL_law 747 = .ok (.aload 6, 2) := by decide +kernel
theorem dL_law_749 : decode cL_law 749 = .ok (.iload 12, 2) := by decide +kernel
theorem dL_law_751 : decode cL_law 751 = .ok (.iaload, 1) := by decide +kernel
theorem dL_law_752 : decode cL_law 752 = .ok (.i2l, 1) := by decide +kernel
theorem dL_law_753 : decode cL_law 753 = .ok (.lcmp, 1) := by decide +kernel
theorem dL_law_754 : decode cL_law 754 = .ok (.ifCond .ne 33, 3) := by decide +kernel
theorem dL_law_757 : decode cL_law 757 = .ok (.aload_n 1, 1) := by decide +kernel
theorem dL_law_758 : decode cL_law 758 = .ok (.iload 12, 2) := by decide +kernel
theorem dL_law_760 : decode cL_law 760 = .ok (.iload 11, 2) := by decide +kernel
theorem dL_law_762 : decode cL_law 762 = .ok (.bipush 9, 2) := by decide +kernel
theorem dL_law_764 : decode cL_law 764 = .ok (.irem, 1) := by decide +kernel
theorem dL_law_765 : decode cL_law 765 = .ok (.invokestatic 185, 3) := by decide +kernel
theorem dL_law_768 : decode cL_law 768 = .ok (.aload_n 1, 1) := by decide +kernel
theorem dL_law_769 : decode cL_law 769 = .ok (.invokevirtual 131, 3) := by decide +kernel
theorem dL_law_772 : decode cL_law 772 = .ok (.iload 11, 2) := by decide +kernel
theorem dL_law_774 : decode cL_law 774 = .ok (.bipush 9, 2) := by decide +kernel
theorem dL_law_776 : decode cL_law 776 = .ok (.irem, 1) := by decide +kernel
theorem dL_law_777 : decode cL_law 777 = .ok (.iadd, 1) := by decide +kernel
theorem dL_law_778 : decode cL_law 778 = .ok (.i2l, 1) := by decide +kernel
theorem dL_law_779 : decode cL_law 779 = .ok (.lcmp, 1) := by decide +kernel
theorem dL_law_780 : decode cL_law 780 = .ok (.ifCond .ne 7, 3) := by decide +kernel
theorem dL_law_783 : decode cL_law 783 = .ok (.iconst 1, 1) := by decide +kernel
theorem dL_law_784 : decode cL_law 784 = .ok (.goto 4, 3) := by decide +kernel
theorem dL_law_787 : decode cL_law 787 = .ok (.iconst 0, 1) := by decide +kernel
theorem dL_law_788 : decode cL_law 788 = .ok (.istore 7, 2) := by decide +kernel
theorem dL_law_790 : decode cL_law 790 = .ok (.aload 6, 2) := by decide +kernel
theorem dL_law_792 : decode cL_law 792 = .ok (.iload 12, 2) := by decide +kernel
theorem dL_law_794 : decode cL_law 794 = .ok (.iload 16, 2) := by decide +kernel
theorem dL_law_796 : decode cL_law 796 = .ok (.iastore, 1) := by decide +kernel
theorem dL_law_797 : decode cL_law 797 = .ok (.goto 414, 3) := by decide +kernel
theorem dL_law_800 : decode cL_law 800 = .ok (.iload 13, 2) := by decide +kernel
theorem dL_law_802 : decode cL_law 802 = .ok (.ifCond .le 409, 3) := by decide +kernel
theorem dL_law_805 : decode cL_law 805 = .ok (.aload_n 1, 1) := by decide +kernel
theorem dL_law_806 : decode cL_law 806 = .ok (.invokevirtual 165, 3) := by decide +kernel
theorem dL_law_809 : decode cL_law 809 = .ok (.ifCond .le 402, 3) := by decide +kernel
theorem dL_law_812 : decode cL_law 812 = .ok (.iload 10, 2) := by decide +kernel
theorem dL_law_814 : decode cL_law 814 = .ok (.bipush 13, 2) := by decide +kernel
theorem dL_law_816 : decode cL_law 816 = .ok (.if_icmp .ge 96, 3) := by decide +kernel
theorem dL_law_819 : decode cL_law 819 = .ok (.aload_n 1, 1) := by decide +kernel
theorem dL_law_820 : decode cL_law 820 = .ok (.iload 15, 2) := by decide +kernel
theorem dL_law_822 : decode cL_law 822 = .ok (.iload 14, 2) := by decide +kernel
theorem dL_law_824 : decode cL_law 824 = .ok (.invokestatic 230, 3) := by decide +kernel
theorem dL_law_827 : decode cL_law 827 = .ok (.lstore 16, 2) := by decide +kernel
theorem dL_law_829 : decode cL_law 829 = .ok (.aload_n 1, 1) := by decide +kernel
theorem dL_law_830 : decode cL_law 830 = .ok (.iload 15, 2) := by decide +kernel
theorem dL_law_832 : decode cL_law 832 = .ok (.invokestatic 168, 3) := by decide +kernel
theorem dL_law_835 : decode cL_law 835 = .ok (.lstore 18, 2) := by decide +kernel
theorem dL_law_837 : decode cL_law 837 = .ok (.aload_n 1, 1) := by decide +kernel
theorem dL_law_838 : decode cL_law 838 = .ok (.iload 14, 2) := by decide +kernel
theorem dL_law_840 : decode cL_law 840 = .ok (.invokestatic 144, 3) := by decide +kernel
theorem dL_law_843 : decode cL_law 843 = .ok (.lstore 20, 2) := by decide +kernel
theorem dL_law_845 : decode cL_law 845 = .ok (.aload_n 1, 1) := by decide +kernel
theorem dL_law_846 : decode cL_law 846 = .ok (.iload 15, 2) := by decide +kernel
theorem dL_law_848 : decode cL_law 848 = .ok (.iload 14, 2) := by decide +kernel
theorem dL_law_850 : decode cL_law 850 = .ok (.invokestatic 202, 3) := by decide +kernel
theorem dL_law_853 : decode cL_law 853 = .ok (.lload 16, 2) := by decide +kernel
theorem dL_law_855 : decode cL_law 855 = .ok (.lcmp, 1) := by decide +kernel
theorem dL_law_856 : decode cL_law 856 = .ok (.ifCond .ne 50, 3) := by decide +kernel
theorem dL_law_859 : decode cL_law 859 = .ok (.aload_n 1, 1) := by decide +kernel
theorem dL_law_860 : decode cL_law 860 = .ok (.iload 15, 2) := by decide +kernel
theorem dL_law_862 : decode cL_law 862 = .ok (.iload 14, 2) := by decide +kernel
theorem dL_law_864 : decode cL_law 864 = .ok (.invokestatic 230, 3) := by decide +kernel
theorem dL_law_867 : decode cL_law 867 = .ok (.lconst 0, 1) := by decide +kernel
theorem dL_law_868 : decode cL_law 868 = .ok (.lcmp, 1) := by decide +kernel
theorem dL_law_869 : decode cL_law 869 = .ok (.ifCond .ne 37, 3) := by decide +kernel
theorem dL_law_872 : decode cL_law 872 = .ok (.aload_n 1, 1) := by decide +kernel
theorem dL_law_873 : decode cL_law 873 = .ok (.iload 15, 2) := by decide +kernel
theorem dL_law_875 : decode cL_law 875 = .ok (.invokestatic 168, 3) := by decide +kernel
theorem dL_law_878 : decode cL_law 878 = .ok (.lload 18, 2) := by decide +kernel
theorem dL_law_880 : decode cL_law 880 = .ok (.lload 16, 2) := by decide +kernel
theorem dL_law_882 : decode cL_law 882 = .ok (.ladd, 1) := by decide +kernel
theorem dL_law_883 : decode cL_law 883 = .ok (.lcmp, 1) := by decide +kernel
theorem dL_law_884 : decode cL_law 884 = .ok (.ifCond .ne 22, 3) := by decide +kernel
theorem dL_law_887 : decode cL_law 887 = .ok (.aload_n 1, 1) := by decide +kernel
theorem dL_law_888 : decode cL_law 888 = .ok (.iload 14, 2) := by decide +kernel
theorem dL_law_890 : decode cL_law 890 = .ok (.invokestatic 144, 3) := by decide +kernel
theorem dL_law_893 : decode cL_law 893 = .ok (.lload 20, 2) := by decide +kernel
theorem dL_law_895 : decode cL_law 895 = .ok (.lload 16, 2) := by decide +kernel
theorem dL_law_897 : decode cL_law 897 = .ok (.ladd, 1) := by decide +kernel
theorem dL_law_898 : decode cL_law 898 = .ok (.lcmp, 1) := by decide +kernel
theorem dL_law_899 : decode cL_law 899 = .ok (.ifCond .ne 7, 3) := by decide +kernel
theorem dL_law_902 : decode cL_law 902 = .ok (.iconst 1, 1) := by decide +kernel
theorem dL_law_903 : decode cL_law 903 = .ok (.goto 4, 3) := by decide +kernel
theorem dL_law_906 : decode cL_law 906 = .ok (.iconst 0, 1) := by decide +kernel
theorem dL_law_907 : decode cL_law 907 = .ok (.istore 7, 2) := by decide +kernel
theorem dL_law_909 : decode cL_law 909 = .ok (.goto 302, 3) := by decide +kernel
theorem dL_law_912 : decode cL_law 912 = .ok (.iload 10, 2) := by decide +kernel
theorem dL_law_914 : decode cL_law 914 = .ok (.bipush 14, 2) := by decide +kernel
theorem dL_law_916 : decode cL_law 916 = .ok (.if_icmp .ge 88, 3) := by decide +kernel
theorem dL_law_919 : decode cL_law 919 = .ok (.aload 5, 2) := by decide +kernel
theorem dL_law_921 : decode cL_law 921 = .ok (.iload 15, 2) := by decide +kernel
theorem dL_law_923 : decode cL_law 923 = .ok (.iaload, 1) := by decide +kernel
theorem dL_law_924 : decode cL_law 924 = .ok (.i2l, 1) := by decide +kernel
theorem dL_law_925 : decode cL_law 925 = .ok (.aload_n 1, 1) := by decide +kernel
theorem dL_law_926 : decode cL_law 926 = .ok (.iload 15, 2) := by decide +kernel
theorem dL_law_928 : decode cL_law 928 = .ok (.invokestatic 168, 3) := by decide +kernel
theorem dL_law_931 : decode cL_law 931 = .ok (.lsub, 1) := by decide +kernel
theorem dL_law_932 : decode cL_law 932 = .ok (.lstore 16, 2) := by decide +kernel
theorem dL_law_934 : decode cL_law 934 = .ok (.aload_n 1, 1) := by decide +kernel
theorem dL_law_935 : decode cL_law 935 = .ok (.iload 15, 2) := by decide +kernel
theorem dL_law_937 : decode cL_law 937 = .ok (.invokestatic 204, 3) := by decide +kernel
theorem dL_law_940 : decode cL_law 940 = .ok (.lstore 18, 2) := by decide +kernel
theorem dL_law_942 : decode cL_law 942 = .ok (.lload 18, 2) := by decide +kernel
theorem dL_law_944 : decode cL_law 944 = .ok (.aload 5, 2) := by decide +kernel
theorem dL_law_946 : decode cL_law 946 = .ok (.iload 15, 2) := by decide +kernel
theorem dL_law_948 : decode cL_law 948 = .ok (.iaload, 1) := by decide +kernel
theorem dL_law_949 : decode cL_law 949 = .ok (.ifCond .ne 9, 3) := by decide +kernel
theorem dL_law_952 : decode cL_law 952 = .ok (.ldc2_w 21, 3) := by decide +kernel
theorem dL_law_955 : decode cL_law 955 = .ok (.goto 5, 3) := by decide +kernel
theorem dL_law_958 : decode cL_law 958 = .ok (.lload 16, 2) := by decide +kernel
theorem dL_law_960 : decode cL_law 960 = .ok (.lcmp, 1) := by decide +kernel
theorem dL_law_961 : decode cL_law 961 = .ok (.ifCond .ne 31, 3) := by decide +kernel
theorem dL_law_964 : decode cL_law 964 = .ok (.aload_n 1, 1) := by decide +kernel
theorem dL_law_965 : decode cL_law 965 = .ok (.iload 15, 2) := by decide +kernel
theorem dL_law_967 : decode cL_law 967 = .ok (.invokestatic 168, 3) := by decide +kernel
theorem dL_law_970 : decode cL_law 970 = .ok (.lconst 0, 1) := by decide +kernel
theorem dL_law_971 : decode cL_law 971 = .ok (.lcmp, 1) := by decide +kernel
theorem dL_law_972 : decode cL_law 972 = .ok (.ifCond .ne 20, 3) := by decide +kernel
theorem dL_law_975 : decode cL_law 975 = .ok (.aload_n 1, 1) := by decide +kernel
theorem dL_law_976 : decode cL_law 976 = .ok (.iload 15, 2) := by decide +kernel
theorem dL_law_978 : decode cL_law 978 = .ok (.iload 14, 2) := by decide +kernel
theorem dL_law_980 : decode cL_law 980 = .ok (.invokestatic 230, 3) := by decide +kernel
theorem dL_law_983 : decode cL_law 983 = .ok (.lconst 0, 1) := by decide +kernel
theorem dL_law_984 : decode cL_law 984 = .ok (.lcmp, 1) := by decide +kernel
theorem dL_law_985 : decode cL_law 985 = .ok (.ifCond .ne 7, 3) := by decide +kernel
theorem dL_law_988 : decode cL_law 988 = .ok (.iconst 1, 1) := by decide +kernel
theorem dL_law_989 : decode cL_law 989 = .ok (.goto 4, 3) := by decide +kernel
theorem dL_law_992 : decode cL_law 992 = .ok (.iconst 0, 1) := by decide +kernel
theorem dL_law_993 : decode cL_law 993 = .ok (.istore 7, 2) := by decide +kernel
theorem dL_law_995 : decode cL_law 995 = .ok (.aload 5, 2) := by decide +kernel
theorem dL_law_997 : decode cL_law 997 = .ok (.iload 15, 2) := by decide +kernel
theorem dL_law_999 : decode cL_law 999 = .ok (.iconst 0, 1) := by decide +kernel
theorem dL_law_1000 : decode cL_law 1000 = .ok (.iastore, 1) := by decide +kernel
theorem dL_law_1001 : decode cL_law 1001 = .ok (.goto 210, 3) := by decide +kernel
theorem dL_law_1004 : decode cL_law 1004 = .ok (.iload 10, 2) := by decide +kernel
theorem dL_law_1006 : decode cL_law 1006 = .ok (.bipush 15, 2) := by decide +kernel
theorem dL_law_1008 : decode cL_law 1008 = .ok (.if_icmp .ge 109, 3) := by decide +kernel
theorem dL_law_1011 : decode cL_law 1011 = .ok (.aload_n 1, 1) := by decide +kernel
theorem dL_law_1012 : decode cL_law 1012 = .ok (.iload 14, 2) := by decide +kernel
theorem dL_law_1014 : decode cL_law 1014 = .ok (.invokestatic 144, 3) := by decide +kernel
theorem dL_law_1017 : decode cL_law 1017 = .ok (.lstore 16, 2) := by decide +kernel
theorem dL_law_1019 : decode cL_law 1019 = .ok (.aload_n 2, 1) := by decide +kernel
theorem dL_law_1020 : decode cL_law 1020 = .ok (.iload 14, 2) := by decide +kernel
theorem dL_law_1022 : decode cL_law 1022 = .ok (.iaload, 1) := by decide +kernel
theorem dL_law_1023 : decode cL_law 1023 = .ok (.aload 4, 2) := by decide +kernel
theorem dL_law_1025 : decode cL_law 1025 = .ok (.iload 15, 2) := by decide +kernel
theorem dL_law_1027 : decode cL_law 1027 = .ok (.iaload, 1) := by decide +kernel
theorem dL_law_1028 : decode cL_law 1028 = .ok (.if_icmp .ne 25, 3) := by decide +kernel
theorem dL_law_1031 : decode cL_law 1031 = .ok (.aload_n 1, 1) := by decide +kernel
theorem dL_law_1032 : decode cL_law 1032 = .ok (.iload 15, 2) := by decide +kernel
theorem dL_law_1034 : decode cL_law 1034 = .ok (.invokestatic 168, 3) := by decide +kernel
theorem dL_law_1037 : decode cL_law 1037 = .ok (.lconst 0, 1) := by decide +kernel
theorem dL_law_1038 : decode cL_law 1038 = .ok (.lcmp, 1) := by decide +kernel
theorem dL_law_1039 : decode cL_law 1039 = .ok (.ifCond .le 14, 3) := by decide +kernel
theorem dL_law_1042 : decode cL_law 1042 = .ok (.lload 16, 2) := by decide +kernel
theorem dL_law_1044 : decode cL_law 1044 = .ok (.lconst 0, 1) := by decide +kernel
theorem dL_law_1045 : decode cL_law 1045 = .ok (.lcmp, 1) := by decide +kernel
theorem dL_law_1046 : decode cL_law 1046 = .ok (.ifCond .le 7, 3) := by decide +kernel
theorem dL_law_1049 : decode cL_law 1049 = .ok (.iconst 1, 1) := by decide +kernel
theorem dL_law_1050 : decode cL_law 1050 = .ok (.goto 4, 3) := by decide +kernel
theorem dL_law_1053 : decode cL_law 1053 = .ok (.iconst 0, 1) := by decide +kernel
theorem dL_law_1054 : decode cL_law 1054 = .ok (.istore 18, 2) := by decide +kernel
theorem dL_law_1056 : decode cL_law 1056 = .ok (.aload_n 1, 1) := by decide +kernel
theorem dL_law_1057 : decode cL_law 1057 = .ok (.iload 15, 2) := by decide +kernel
theorem dL_law_1059 : decode cL_law 1059 = .ok (.iload 14, 2) := by decide +kernel
theorem dL_law_1061 : decode cL_law 1061 = .ok (.iconst 1, 1) := by decide +kernel
theorem dL_law_1062 : decode cL_law 1062 = .ok (.invokestatic 197, 3) := by decide +kernel
theorem dL_law_1065 : decode cL_law 1065 = .ok (.iload 18, 2) := by decide +kernel
theorem dL_law_1067 : decode cL_law 1067 = .ok (.ifCond .eq 10, 3) := by decide +kernel
theorem dL_law_1070 : decode cL_law 1070 = .ok (.lload 16, 2) := by decide +kernel
theorem dL_law_1072 : decode cL_law 1072 = .ok (.lconst 1, 1) := by decide +kernel
theorem dL_law_1073 : decode cL_law 1073 = .ok (.lsub, 1) := by decide +kernel
theorem dL_law_1074 : decode cL_law 1074 = .ok (.goto 6, 3) := by decide +kernel
theorem dL_law_1077 : decode cL_law 1077 = .ok (.ldc2_w 21, 3) := by decide +kernel
theorem dL_law_1080 : decode cL_law 1080 = .ok (.lcmp, 1) := by decide +kernel
theorem dL_law_1081 : decode cL_law 1081 = .ok (.ifCond .ne 30, 3) := by decide +kernel
theorem dL_law_1084 : decode cL_law 1084 = .ok (.iload 18, 2) := by decide +kernel
theorem dL_law_1086 : decode cL_law 1086 = .ok (.ifCond .eq 21, 3) := by decide +kernel
theorem dL_law_1089 : decode cL_law 1089 = .ok (.lload 16, 2) := by decide +kernel
theorem dL_law_1091 : decode cL_law 1091 = .ok (.lconst 1, 1) := by decide +kernel
theorem dL_law_1092 : decode cL_law 1092 = .ok (.lcmp, 1) := by decide +kernel
theorem dL_law_1093 : decode cL_law 1093 = .ok (.ifCond .eq 14, 3) := by decide +kernel
theorem dL_law_1096 : decode cL_law 1096 = .ok (.aload_n 1, 1) := by decide +kernel
theorem dL_law_1097 : decode cL_law 1097 = .ok (.iload 14, 2) := by decide +kernel
theorem dL_law_1099 : decode cL_law 1099 = .ok (.invokestatic 162, 3) := by decide +kernel
theorem dL_law_1102 : decode cL_law 1102 = .ok (.lconst 1, 1) := by decide +kernel
theorem dL_law_1103 : decode cL_law 1103 = .ok (.lcmp, 1) := by decide +kernel
theorem dL_law_1104 : decode cL_law 1104 = .ok (.ifCond .eq 7, 3) := by decide +kernel
theorem dL_law_1107 : decode cL_law 1107 = .ok (.iconst 1, 1) := by decide +kernel
theorem dL_law_1108 : decode cL_law 1108 = .ok (.goto 4, 3) := by decide +kernel
theorem dL_law_1111 : decode cL_law 1111 = .ok (.iconst 0, 1) := by decide +kernel
theorem dL_law_1112 : decode cL_law 1112 = .ok (.istore 7, 2) := by decide +kernel
theorem dL_law_1114 : decode cL_law 1114 = .ok (.goto 97, 3) := by decide +kernel
theorem dL_law_1117 : decode cL_law 1117 = .ok (.aload_n 1, 1) := by decide +kernel
theorem dL_law_1118 : decode cL_law 1118 = .ok (.iload 14, 2) := by decide +kernel
theorem dL_law_1120 : decode cL_law 1120 = .ok (.invokestatic 150, 3) := by decide +kernel
theorem dL_law_1123 : decode cL_law 1123 = .ok (.lstore 16, 2) := by decide +kernel
theorem dL_law_1125 : decode cL_law 1125 = .ok (.aload_n 1, 1) := by decide +kernel
theorem dL_law_1126 : decode cL_law 1126 = .ok (.iload 14, 2) := by decide +kernel
theorem dL_law_1128 : decode cL_law 1128 = .ok (.invokestatic 144, 3) := by decide +kernel
theorem dL_law_1131 : decode cL_law 1131 = .ok (.lstore 18, 2) := by decide +kernel
theorem dL_law_1133 : decode cL_law 1133 = .ok (.lload 16, 2) := by decide +kernel
theorem dL_law_1135 : decode cL_law 1135 = .ok (.ldc2_w 278, 3) := by decide +kernel
theorem dL_law_1138 : decode cL_law 1138 = .ok (.ldiv, 1) := by decide +kernel
theorem dL_law_1139 : decode cL_law 1139 = .ok (.l2i, 1) := by decide +kernel
theorem dL_law_1140 : decode cL_law 1140 = .ok (.istore 20, 2) := by decide +kernel
theorem dL_law_1142 : decode cL_law 1142 = .ok (.aload_n 1, 1) := by decide +kernel
theorem dL_law_1143 : decode cL_law 1143 = .ok (.iload 14, 2) := by decide +kernel
theorem dL_law_1145 : decode cL_law 1145 = .ok (.iload 20, 2) := by decide +kernel
theorem dL_law_1147 : decode cL_law 1147 = .ok (.invokestatic 210, 3) := by decide +kernel
theorem dL_law_1150 : decode cL_law 1150 = .ok (.lload 16, 2) := by decide +kernel
theorem dL_law_1152 : decode cL_law 1152 = .ok (.lconst 0, 1) := by decide +kernel
theorem dL_law_1153 : decode cL_law 1153 = .ok (.lcmp, 1) := by decide +kernel
theorem dL_law_1154 : decode cL_law 1154 = .ok (.ifCond .ne 9, 3) := by decide +kernel
theorem dL_law_1157 : decode cL_law 1157 = .ok (.ldc2_w 21, 3) := by decide +kernel
theorem dL_law_1160 : decode cL_law 1160 = .ok (.goto 9, 3) := by decide +kernel
theorem dL_law_1163 : decode cL_law 1163 = .ok (.lload 18, 2) := by decide +kernel
theorem dL_law_1165 : decode cL_law 1165 = .ok (.iload 20, 2) := by decide +kernel
theorem dL_law_1167 : decode cL_law 1167 = .ok (.i2l, 1) := by decide +kernel
theorem dL_law_1168 : decode cL_law 1168 = .ok (.lsub, 1) := by decide +kernel
theorem dL_law_1169 : decode cL_law 1169 = .ok (.lcmp, 1) := by decide +kernel
theorem dL_law_1170 : decode cL_law 1170 = .ok (.ifCond .ne 18, 3) := by decide +kernel
theorem dL_law_1173 : decode cL_law 1173 = .ok (.aload_n 1, 1) := by decide +kernel
theorem dL_law_1174 : decode cL_law 1174 = .ok (.iload 14, 2) := by decide +kernel
theorem dL_law_1176 : decode cL_law 1176 = .ok (.invokestatic 150, 3) := by decide +kernel
theorem dL_law_1179 : decode cL_law 1179 = .ok (.lconst 0, 1) := by decide +kernel
theorem dL_law_1180 : decode cL_law 1180 = .ok (.lcmp, 1) := by decide +kernel
theorem dL_law_1181 : decode cL_law 1181 = .ok (.ifCond .ne 7, 3) := by decide +kernel
theorem dL_law_1184 : decode cL_law 1184 = .ok (.iconst 1, 1) := by decide +kernel
theorem dL_law_1185 : decode cL_law 1185 = .ok (.goto 4, 3) := by decide +kernel
theorem dL_law_1188 : decode cL_law 1188 = .ok (.iconst 0, 1) := by decide +kernel
theorem dL_law_1189 : decode cL_law 1189 = .ok (.istore 7, 2) := by decide +kernel
theorem dL_law_1191 : decode cL_law 1191 = .ok (.aload_n 3, 1) := by decide +kernel
theorem dL_law_1192 : decode cL_law 1192 = .ok (.iload 14, 2) := by decide +kernel
theorem dL_law_1194 : decode cL_law 1194 = .ok (.dup2, 1) := by decide +kernel
theorem dL_law_1195 : decode cL_law 1195 = .ok (.iaload, 1) := by decide +kernel
theorem dL_law_1196 : decode cL_law 1196 = .ok (.lload 16, 2) := by decide +kernel
theorem dL_law_1198 : decode cL_law 1198 = .ok (.lconst 0, 1) := by decide +kernel
theorem dL_law_1199 : decode cL_law 1199 = .ok (.lcmp, 1) := by decide +kernel
theorem dL_law_1200 : decode cL_law 1200 = .ok (.ifCond .ne 7, 3) := by decide +kernel
theorem dL_law_1203 : decode cL_law 1203 = .ok (.iconst 0, 1) := by decide +kernel
theorem dL_law_1204 : decode cL_law 1204 = .ok (.goto 5, 3) := by decide +kernel
theorem dL_law_1207 : decode cL_law 1207 = .ok (.iload 20, 2) := by decide +kernel
theorem dL_law_1209 : decode cL_law 1209 = .ok (.iadd, 1) := by decide +kernel
theorem dL_law_1210 : decode cL_law 1210 = .ok (.iastore, 1) := by decide +kernel
theorem dL_law_1211 : decode cL_law 1211 = .ok (.iload 8, 2) := by decide +kernel
theorem dL_law_1213 : decode cL_law 1213 = .ok (.bipush 8, 2) := by decide +kernel
theorem dL_law_1215 : decode cL_law 1215 = .ok (.irem, 1) := by decide +kernel
theorem dL_law_1216 : decode cL_law 1216 = .ok (.bipush 7, 2) := by decide +kernel
theorem dL_law_1218 : decode cL_law 1218 = .ok (.if_icmp .ne 35, 3) := by decide +kernel
theorem dL_law_1221 : decode cL_law 1221 = .ok (.iload 7, 2) := by decide +kernel
theorem dL_law_1223 : decode cL_law 1223 = .ok (.ifCond .eq 27, 3) := by decide +kernel
theorem dL_law_1226 : decode cL_law 1226 = .ok (.aload_n 1, 1) := by decide +kernel
theorem dL_law_1227 : decode cL_law 1227 = .ok (.aload_n 2, 1) := by decide +kernel
theorem dL_law_1228 : decode cL_law 1228 = .ok (.aload_n 3, 1) := by decide +kernel
theorem dL_law_1229 : decode cL_law 1229 = .ok (.aload 4, 2) := by decide +kernel
theorem dL_law_1231 : decode cL_law 1231 = .ok (.aload 5, 2) := by decide +kernel
theorem dL_law_1233 : decode cL_law 1233 = .ok (.invokestatic 280, 3) := by decide +kernel
theorem dL_law_1236 : decode cL_law 1236 = .ok (.ifCond .eq 14, 3) := by decide +kernel
theorem dL_law_1239 : decode cL_law 1239 = .ok (.aload_n 1, 1) := by decide +kernel
theorem dL_law_1240 : decode cL_law 1240 = .ok (.invokestatic 284, 3) := by decide +kernel
theorem dL_law_1243 : decode cL_law 1243 = .ok (.ifCond .eq 7, 3) := by decide +kernel
theorem dL_law_1246 : decode cL_law 1246 = .ok (.iconst 1, 1) := by decide +kernel
theorem dL_law_1247 : decode cL_law 1247 = .ok (.goto 4, 3) := by decide +kernel
theorem dL_law_1250 : decode cL_law 1250 = .ok (.iconst 0, 1) := by decide +kernel
theorem dL_law_1251 : decode cL_law 1251 = .ok (.istore 7, 2) := by decide +kernel
theorem dL_law_1253 : decode cL_law 1253 = .ok (.iinc 8 1, 3) := by decide +kernel
theorem dL_law_1256 : decode cL_law 1256 = .ok (.goto (-1177), 3) := by decide +kernel
theorem dL_law_1259 : decode cL_law 1259 = .ok (.iload 7, 2) := by decide +kernel
theorem dL_law_1261 : decode cL_law 1261 = .ok (.ifCond .eq 20, 3) := by decide +kernel
theorem dL_law_1264 : decode cL_law 1264 = .ok (.aload_n 1, 1) := by decide +kernel
theorem dL_law_1265 : decode cL_law 1265 = .ok (.aload_n 2, 1) := by decide +kernel
theorem dL_law_1266 : decode cL_law 1266 = .ok (.aload_n 3, 1) := by decide +kernel
theorem dL_law_1267 : decode cL_law 1267 = .ok (.aload 4, 2) := by decide +kernel
theorem dL_law_1269 : decode cL_law 1269 = .ok (.aload 5, 2) := by decide +kernel
theorem dL_law_1271 : decode cL_law 1271 = .ok (.invokestatic 280, 3) := by decide +kernel
theorem dL_law_1274 : decode cL_law 1274 = .ok (.ifCond .eq 7, 3) := by decide +kernel
theorem dL_law_1277 : decode cL_law 1277 = .ok (.iconst 1, 1) := by decide +kernel
theorem dL_law_1278 : decode cL_law 1278 = .ok (.goto 4, 3) := by decide +kernel
theorem dL_law_1281 : decode cL_law 1281 = .ok (.iconst 0, 1) := by decide +kernel
theorem dL_law_1282 : decode cL_law 1282 = .ok (.ireturn, 1) := by decide +kernel
