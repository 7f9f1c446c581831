theorem dL_holds_700 : decode cL_holds 700 = .ok (.iconst 0, 1) := by decide +kernel
theorem dL_holds_701 : decode cL_holds 701 = .ok (.iconst 0, 1) := by decide +kernel
theorem dL_holds_702 : decode cL_holds 702 = .ok (.invokestatic 172, 3) := by decide +kernel
theorem dL_holds_705 : decode cL_holds 705 = .ok (.imul, 1) := by decide +kernel
theorem dL_holds_706 : decode cL_holds 706 = .ok (.aload_n 0, 1) := by decide +kernel
theorem dL_holds_707 : decode cL_holds 707 = .ok (.bipush 6, 2) := by decide +kernel
theorem dL_holds_709 : decode cL_holds 709 = .ok (.iload 10, 2) := by decide +kernel
theorem dL_holds_711 : decode cL_holds 711 = .ok (.iconst 5, 1) := by decide +kernel
theorem dL_holds_712 : decode cL_holds 712 = .ok (.iconst 0, 1) := by decide +kernel
theorem dL_holds_713 : decode cL_holds 713 = .ok (.invokestatic 172, 3) := by decide +kernel
theorem dL_holds_716 : decode cL_holds 716 = .ok (.iadd, 1) := by decide +kernel
theorem dL_holds_717 : decode cL_holds 717 = .ok (.istore 12, 2) := by decide +kernel
theorem dL_holds_719 : decode cL_holds 719 = .ok (.aload_n 0, 1) := by decide +kernel
theorem dL_holds_720 : decode cL_holds 720 = .ok (.bipush 6, 2) := by decide +kernel
theorem dL_holds_722 : decode cL_holds 722 = .ok (.iload 10, 2) := by decide +kernel
theorem dL_holds_724 : decode cL_holds 724 = .ok (.bipush 6, 2) := by decide +kernel
theorem dL_holds_726 : decode cL_holds 726 = .ok (.iconst 0, 1) := by decide +kernel
theorem dL_holds_727 : decode cL_holds 727 = .ok (.invokestatic 172, 3) := by decide +kernel
theorem dL_holds_730 : decode cL_holds 730 = .ok (.istore 13, 2) := by decide +kernel
theorem dL_holds_732 : decode cL_holds 732 = .ok (.aload_n 0, 1) := by decide +kernel
theorem dL_holds_733 : decode cL_holds 733 = .ok (.bipush 6, 2) := by decide +kernel
theorem dL_holds_735 : decode cL_holds 735 = .ok (.iload 10, 2) := by decide +kernel
theorem dL_holds_737 : decode cL_holds 737 = .ok (.iconst 2, 1) := by decide +kernel
theorem dL_holds_738 : decode cL_holds 738 = .ok (.iconst 0, 1) := by decide +kernel
theorem dL_holds_739 : decode cL_holds 739 = .ok (.invokestatic 172, 3) := by decide +kernel
theorem dL_holds_742 : decode cL_holds 742 = .ok (.istore 14, 2) := by decide +kernel
theorem dL_holds_744 : decode cL_holds 744 = .ok (.aload_n 0, 1) := by decide +kernel
theorem dL_holds_745 : decode cL_holds 745 = .ok (.iconst 3, 1) := by decide +kernel
theorem dL_holds_746 : decode cL_holds 746 = .ok (.iload 14, 2) := by decide +kernel
theorem dL_holds_748 : decode cL_holds 748 = .ok (.iconst 1, 1) := by decide +kernel
theorem dL_holds_749 : decode cL_holds 749 = .ok (.iconst 0, 1) := by decide +kernel
theorem dL_holds_750 : decode cL_holds 750 = .ok (.invokestatic 172, 3) := by decide +kernel
theorem dL_holds_753 : decode cL_holds 753 = .ok (.aload_n 0, 1) := by decide +kernel
theorem dL_holds_754 : decode cL_holds 754 = .ok (.bipush 7, 2) := by decide +kernel
theorem dL_holds_756 : decode cL_holds 756 = .ok (.iconst 1, 1) := by decide +kernel
theorem dL_holds_757 : decode cL_holds 757 = .ok (.iconst 0, 1) := by decide +kernel
theorem dL_holds_758 : decode cL_holds 758 = .ok (.iconst 0, 1) := by decide +kernel
theorem dL_holds_759 : decode cL_holds 759 = .ok (.invokestatic 172, 3) := by decide +kernel
theorem dL_holds_762 : decode cL_holds 762 = .ok (.imul, 1) := by decide +kernel
theorem dL_holds_763 : decode cL_holds 763 = .ok (.istore 15, 2) := by decide +kernel
theorem dL_holds_765 : decode cL_holds 765 = .ok (.iload 13, 2) := by decide +kernel
theorem dL_holds_767 : decode cL_holds 767 = .ok (.ifCond .lt 97, 3) := by decide +kernel
theorem dL_holds_770 : decode cL_holds 770 = .ok (.iload 13, 2) := by decide +kernel
theorem dL_holds_772 : decode cL_holds 772 = .ok (.iload 12, 2) := by decide +kernel
theorem dL_holds_774 : decode cL_holds 774 = .ok (.iadd, 1) := by decide +kernel
theorem dL_holds_775 : decode cL_holds 775 = .ok (.bipush 100, 2) := by decide +kernel
theorem dL_holds_777 : decode cL_holds 777 = .ok (.iload 12, 2) := by decide +kernel
theorem dL_holds_779 : decode cL_holds 779 = .ok (.iadd, 1) := by decide +kernel
theorem dL_holds_780 : decode cL_holds 780 = .ok (.if_icmp .ge 84, 3) := by decide +kernel
theorem dL_holds_783 : decode cL_holds 783 = .ok (.iload 11, 2) := by decide +kernel
theorem dL_holds_785 : decode cL_holds 785 = .ok (.iconst (-1), 1) := by decide +kernel
theorem dL_holds_786 : decode cL_holds 786 = .ok (.if_icmp .eq 48, 3) := by decide +kernel
theorem dL_holds_789 : decode cL_holds 789 = .ok (.iload 11, 2) := by decide +kernel
theorem dL_holds_791 : decode cL_holds 791 = .ok (.iload 12, 2) := by decide +kernel
theorem dL_holds_793 : decode cL_holds 793 = .ok (.isub, 1) := by decide +kernel
theorem dL_holds_794 : decode cL_holds 794 = .ok (.ifCond .le 70, 3) := by decide +kernel
theorem dL_holds_797 : decode cL_holds 797 = .ok (.bipush 100, 2) := by decide +kernel
theorem dL_holds_799 : decode cL_holds 799 = .ok (.iload 11, 2) := by decide +kernel
theorem dL_holds_801 : decode cL_holds 801 = .ok (.iload 12, 2) := by decide +kernel
theorem dL_holds_803 : decode cL_holds 803 = .ok (.isub, 1) := by decide +kernel
theorem dL_holds_804 : decode cL_holds 804 = .ok (.imul, 1) := by decide +kernel
theorem dL_holds_805 : decode cL_holds 805 = .ok (.iload 15, 2) := by decide +kernel
theorem dL_holds_807 : decode cL_holds 807 = .ok (.if_icmp .lt 57, 3) := by decide +kernel
theorem dL_holds_810 : decode cL_holds 810 = .ok (.iload 11, 2) := by decide +kernel
theorem dL_holds_812 : decode cL_holds 812 = .ok (.iload 12, 2) := by decide +kernel
theorem dL_holds_814 : decode cL_holds 814 = .ok (.isub, 1) := by decide +kernel
theorem dL_holds_815 : decode cL_holds 815 = .ok (.iconst 1, 1) := by decide +kernel
theorem dL_holds_816 : decode cL_holds 816 = .ok (.if_icmp .eq 18, 3) := by decide +kernel
theorem dL_holds_819 : decode cL_holds 819 = .ok (.bipush 100, 2) := by decide +kernel
theorem dL_holds_821 : decode cL_holds 821 = .ok (.iload 11, 2) := by decide +kernel
theorem dL_holds_823 : decode cL_holds 823 = .ok (.iload 12, 2) := by decide +kernel
theorem dL_holds_825 : decode cL_holds 825 = .ok (.isub, 1) := by decide +kernel
theorem dL_holds_826 : decode cL_holds 826 = .ok (.iconst 1, 1) := by decide +kernel
theorem dL_holds_827 : decode cL_holds 827 = .ok (.isub, 1) := by decide +kernel
theorem dL_holds_828 : decode cL_holds 828 = .ok (.imul, 1) := by decide +kernel
theorem dL_holds_829 : decode cL_holds 829 = .ok (.iload 15, 2) := by decide +kernel
theorem dL_holds_831 : decode cL_holds 831 = .ok (.if_icmp .ge 33, 3) := by decide +kernel
theorem dL_holds_834 : decode cL_holds 834 = .ok (.iload 11, 2) := by decide +kernel
theorem dL_holds_836 : decode cL_holds 836 = .ok (.iconst (-1), 1) := by decide +kernel
theorem dL_holds_837 : decode cL_holds 837 = .ok (.if_icmp .ne 23, 3) := by decide +kernel
theorem dL_holds_840 : decode cL_holds 840 = .ok (.bipush 100, 2) := by decide +kernel
theorem dL_holds_842 : decode cL_holds 842 = .ok (.bipush 99, 2) := by decide +kernel
theorem dL_holds_844 : decode cL_holds 844 = .ok (.iload 12, 2) := by decide +kernel
theorem dL_holds_846 : decode cL_holds 846 = .ok (.isub, 1) := by decide +kernel
theorem dL_holds_847 : decode cL_holds 847 = .ok (.imul, 1) := by decide +kernel
theorem dL_holds_848 : decode cL_holds 848 = .ok (.iload 15, 2) := by decide +kernel
theorem dL_holds_850 : decode cL_holds 850 = .ok (.if_icmp .lt 10, 3) := by decide +kernel
theorem dL_holds_853 : decode cL_holds 853 = .ok (.iload 12, 2) := by decide +kernel
theorem dL_holds_855 : decode cL_holds 855 = .ok (.bipush 98, 2) := by decide +kernel
theorem dL_holds_857 : decode cL_holds 857 = .ok (.if_icmp .le 7, 3) := by decide +kernel
theorem dL_holds_860 : decode cL_holds 860 = .ok (.iconst 1, 1) := by decide +kernel
theorem dL_holds_861 : decode cL_holds 861 = .ok (.goto 4, 3) := by decide +kernel
theorem dL_holds_864 : decode cL_holds 864 = .ok (.iconst 0, 1) := by decide +kernel
theorem dL_holds_865 : decode cL_holds 865 = .ok (.istore 9, 2) := by decide +kernel
theorem dL_holds_867 : decode cL_holds 867 = .ok (.iinc 10 1, 3) := by decide +kernel
theorem dL_holds_870 : decode cL_holds 870 = .ok (.goto (-208), 3) := by decide +kernel
theorem dL_holds_873 : decode cL_holds 873 = .ok (.aload_n 0, 1) := by decide +kernel
theorem dL_holds_874 : decode cL_holds 874 = .ok (.invokevirtual 194, 3) := by decide +kernel
theorem dL_holds_877 : decode cL_holds 877 = .ok (.istore 10, 2) := by decide +kernel
theorem dL_holds_879 : decode cL_holds 879 = .ok (.iload 9, 2) := by decide +kernel
theorem dL_holds_881 : decode cL_holds 881 = .ok (.ifCond .eq 93, 3) := by decide +kernel
theorem dL_holds_884 : decode cL_holds 884 = .ok (.iload 7, 2) := by decide +kernel
theorem dL_holds_886 : decode cL_holds 886 = .ok (.iload_n 3, 1) := by decide +kernel
theorem dL_holds_887 : decode cL_holds 887 = .ok (.if_icmp .ne 87, 3) := by decide +kernel
theorem dL_holds_890 : decode cL_holds 890 = .ok (.iload 8, 2) := by decide +kernel
theorem dL_holds_892 : decode cL_holds 892 = .ok (.iload_n 3, 1) := by decide +kernel
theorem dL_holds_893 : decode cL_holds 893 = .ok (.if_icmp .ne 81, 3) := by decide +kernel
theorem dL_holds_896 : decode cL_holds 896 = .ok (.aload_n 0, 1) := by decide +kernel
theorem dL_holds_897 : decode cL_holds 897 = .ok (.iconst 2, 1) := by decide +kernel
theorem dL_holds_898 : decode cL_holds 898 = .ok (.iconst 3, 1) := by decide +kernel
theorem dL_holds_899 : decode cL_holds 899 = .ok (.iconst 0, 1) := by decide +kernel
theorem dL_holds_900 : decode cL_holds 900 = .ok (.iconst 0, 1) := by decide +kernel
theorem dL_holds_901 : decode cL_holds 901 = .ok (.invokestatic 172, 3) := by decide +kernel
theorem dL_holds_904 : decode cL_holds 904 = .ok (.iload 4, 2) := by decide +kernel
theorem dL_holds_906 : decode cL_holds 906 = .ok (.if_icmp .ne 68, 3) := by decide +kernel
theorem dL_holds_909 : decode cL_holds 909 = .ok (.aload_n 0, 1) := by decide +kernel
theorem dL_holds_910 : decode cL_holds 910 = .ok (.iconst 2, 1) := by decide +kernel
theorem dL_holds_911 : decode cL_holds 911 = .ok (.iconst 4, 1) := by decide +kernel
theorem dL_holds_912 : decode cL_holds 912 = .ok (.iconst 0, 1) := by decide +kernel
theorem dL_holds_913 : decode cL_holds 913 = .ok (.iconst 0, 1) := by decide +kernel
theorem dL_holds_914 : decode cL_holds 914 = .ok (.invokestatic 172, 3) := by decide +kernel
theorem dL_holds_917 : decode cL_holds 917 = .ok (.iload 5, 2) := by decide +kernel
theorem dL_holds_919 : decode cL_holds 919 = .ok (.if_icmp .ne 55, 3) := by decide +kernel
theorem dL_holds_922 : decode cL_holds 922 = .ok (.aload_n 0, 1) := by decide +kernel
theorem dL_holds_923 : decode cL_holds 923 = .ok (.iconst 2, 1) := by decide +kernel
theorem dL_holds_924 : decode cL_holds 924 = .ok (.iconst 5, 1) := by decide +kernel
theorem dL_holds_925 : decode cL_holds 925 = .ok (.iconst 0, 1) := by decide +kernel
theorem dL_holds_926 : decode cL_holds 926 = .ok (.iconst 0, 1) := by decide +kernel
theorem dL_holds_927 : decode cL_holds 927 = .ok (.invokestatic 172, 3) := by decide +kernel
theorem dL_holds_930 : decode cL_holds 930 = .ok (.iload 6, 2) := by decide +kernel
theorem dL_holds_932 : decode cL_holds 932 = .ok (.if_icmp .ne 42, 3) := by decide +kernel
theorem dL_holds_935 : decode cL_holds 935 = .ok (.iload 10, 2) := by decide +kernel
theorem dL_holds_937 : decode cL_holds 937 = .ok (.iconst (-1), 1) := by decide +kernel
theorem dL_holds_938 : decode cL_holds 938 = .ok (.if_icmp .eq 32, 3) := by decide +kernel
theorem dL_holds_941 : decode cL_holds 941 = .ok (.aload_n 0, 1) := by decide +kernel
theorem dL_holds_942 : decode cL_holds 942 = .ok (.iconst 4, 1) := by decide +kernel
theorem dL_holds_943 : decode cL_holds 943 = .ok (.aload_n 0, 1) := by decide +kernel
theorem dL_holds_944 : decode cL_holds 944 = .ok (.bipush 6, 2) := by decide +kernel
theorem dL_holds_946 : decode cL_holds 946 = .ok (.iload 10, 2) := by decide +kernel
theorem dL_holds_948 : decode cL_holds 948 = .ok (.iconst 0, 1) := by decide +kernel
theorem dL_holds_949 : decode cL_holds 949 = .ok (.iconst 0, 1) := by decide +kernel
theorem dL_holds_950 : decode cL_holds 950 = .ok (.invokestatic 172, 3) := by decide +kernel
theorem dL_holds_953 : decode cL_holds 953 = .ok (.aload_n 0, 1) := by decide +kernel
theorem dL_holds_954 : decode cL_holds 954 = .ok (.bipush 6, 2) := by decide +kernel
theorem dL_holds_956 : decode cL_holds 956 = .ok (.iload 10, 2) := by decide +kernel
theorem dL_holds_958 : decode cL_holds 958 = .ok (.iconst 1, 1) := by decide +kernel
theorem dL_holds_959 : decode cL_holds 959 = .ok (.iconst 0, 1) := by decide +kernel
theorem dL_holds_960 : decode cL_holds 960 = .ok (.invokestatic 172, 3) := by decide +kernel
theorem dL_holds_963 : decode cL_holds 963 = .ok (.iconst 0, 1) := by decide +kernel
theorem dL_holds_964 : decode cL_holds 964 = .ok (.invokestatic 172, 3) := by decide +kernel
theorem dL_holds_967 : decode cL_holds 967 = .ok (.ifCond .le 7, 3) := by decide +kernel
theorem dL_holds_970 : decode cL_holds 970 = .ok (.iconst 1, 1) := by decide +kernel
theorem dL_holds_971 : decode cL_holds 971 = .ok (.goto 4, 3) := by decide +kernel
theorem dL_holds_974 : decode cL_holds 974 = .ok (.iconst 0, 1) := by decide +kernel
theorem dL_holds_975 : decode cL_holds 975 = .ok (.ireturn, 1) := by decide +kernel
theorem dL_act_0 : decode cL_act 0 = .ok (.iload_n 1, 1) := by decide +kernel
theorem dL_act_1 : decode cL_act 1 = .ok (.bipush 16, 2) := by decide +kernel
theorem dL_act_3 : decode cL_act 3 = .ok (.idiv, 1) := by decide +kernel
theorem dL_act_4 : decode cL_act 4 = .ok (.istore_n 2, 1) := by decide +kernel
theorem dL_act_5 : decode cL_act 5 = .ok (.aload_n 0, 1) := by decide +kernel
theorem dL_act_6 : decode cL_act 6 = .ok (.iconst 2, 1) := by decide +kernel
theorem dL_act_7 : decode cL_act 7 = .ok (.iconst 0, 1) := by decide +kernel
theorem dL_act_8 : decode cL_act 8 = .ok (.iconst 0, 1) := by decide +kernel
theorem dL_act_9 : decode cL_act 9 = .ok (.iconst 0, 1) := by decide +kernel
theorem dL_act_10 : decode cL_act 10 = .ok (.invokestatic 172, 3) := by decide +kernel
theorem dL_act_13 : decode cL_act 13 = .ok (.istore_n 3, 1) := by decide +kernel
theorem dL_act_14 : decode cL_act 14 = .ok (.aload_n 0, 1) := by decide +kernel
theorem dL_act_15 : decode cL_act 15 = .ok (.iconst 2, 1) := by decide +kernel
theorem dL_act_16 : decode cL_act 16 = .ok (.iconst 1, 1) := by decide +kernel
theorem dL_act_17 : decode cL_act 17 = .ok (.iconst 0, 1) := by decide +kernel
theorem dL_act_18 : decode cL_act 18 = .ok (.iconst 0, 1) := by decide +kernel
theorem dL_act_19 : decode cL_act 19 = .ok (.invokestatic 172, 3) := by decide +kernel
theorem dL_act_22 : decode cL_act 22 = .ok (.istore 4, 2) := by decide +kernel
theorem dL_act_24 : decode cL_act 24 = .ok (.iload_n 2, 1) := by decide +kernel
theorem dL_act_25 : decode cL_act 25 = .ok (.iload_n 3, 1) := by decide +kernel
theorem dL_act_26 : decode cL_act 26 = .ok (.irem, 1) := by decide +kernel
theorem dL_act_27 : decode cL_act 27 = .ok (.istore 5, 2) := by decide +kernel
theorem dL_act_29 : decode cL_act 29 = .ok (.iload 4, 2) := by decide +kernel
theorem dL_act_31 : decode cL_act 31 = .ok (.ifCond .ne 7, 3) := by decide +kernel
theorem dL_act_34 : decode cL_act 34 = .ok (.iconst 0, 1) := by decide +kernel
theorem dL_act_35 : decode cL_act 35 = .ok (.goto 7, 3) := by decide +kernel
theorem dL_act_38 : decode cL_act 38 = .ok (.iload_n 2, 1) := by decide +kernel
theorem dL_act_39 : decode cL_act 39 = .ok (.iload 4, 2) := by decide +kernel
theorem dL_act_41 : decode cL_act 41 = .ok (.irem, 1) := by decide +kernel
theorem dL_act_42 : decode cL_act 42 = .ok (.istore 6, 2) := by decide +kernel
theorem dL_act_44 : decode cL_act 44 = .ok (.iload_n 1, 1) := by decide +kernel
theorem dL_act_45 : decode cL_act 45 = .ok (.bipush 16, 2) := by decide +kernel
theorem dL_act_47 : decode cL_act 47 = .ok (.irem, 1) := by decide +kernel
theorem dL_act_48 : decode cL_act 48 = .ok (.tableswitch 285 0 11 #[64, 64, 84, 84, 84, 84, 120, 156, 156, 177, 223, 249], 64) := by decide +kernel
theorem dL_act_112 : decode cL_act 112 = .ok (.aload_n 0, 1) := by decide +kernel
theorem dL_act_113 : decode cL_act 113 = .ok (.bipush 8, 2) := by decide +kernel
theorem dL_act_115 : decode cL_act 115 = .ok (.iload_n 2, 1) := by decide +kernel
theorem dL_act_116 : decode cL_act 116 = .ok (.iconst 5, 1) := by decide +kernel
theorem dL_act_117 : decode cL_act 117 = .ok (.irem, 1) := by decide +kernel
theorem dL_act_118 : decode cL_act 118 = .ok (.bipush 10, 2) := by decide +kernel
theorem dL_act_120 : decode cL_act 120 = .ok (.iload_n 2, 1) := by decide +kernel
theorem dL_act_121 : decode cL_act 121 = .ok (.iconst 5, 1) := by decide +kernel
theorem dL_act_122 : decode cL_act 122 = .ok (.idiv, 1) := by decide +kernel
theorem dL_act_123 : decode cL_act 123 = .ok (.bipush 90, 2) := by decide +kernel
theorem dL_act_125 : decode cL_act 125 = .ok (.irem, 1) := by decide +kernel
theorem dL_act_126 : decode cL_act 126 = .ok (.iadd, 1) := by decide +kernel
theorem dL_act_127 : decode cL_act 127 = .ok (.iconst 0, 1) := by decide +kernel
theorem dL_act_128 : decode cL_act 128 = .ok (.invokestatic 172, 3) := by decide +kernel
theorem dL_act_131 : decode cL_act 131 = .ok (.ireturn, 1) := by decide +kernel
theorem dL_act_132 : decode cL_act 132 = .ok (.aload_n 0, 1) := by decide +kernel
theorem dL_act_133 : decode cL_act 133 = .ok (.iload 5, 2) := by decide +kernel
theorem dL_act_135 : decode cL_act 135 = .ok (.iload_n 2, 1) := by decide +kernel
theorem dL_act_136 : decode cL_act 136 = .ok (.bipush 10, 2) := by decide +kernel
theorem dL_act_138 : decode cL_act 138 = .ok (.idiv, 1) := by decide +kernel
theorem dL_act_139 : decode cL_act 139 = .ok (.iconst 2, 1) := by decide +kernel
theorem dL_act_140 : decode cL_act 140 = .ok (.irem, 1) := by decide +kernel
theorem dL_act_141 : decode cL_act 141 = .ok (.iload_n 2, 1) := by decide +kernel
theorem dL_act_142 : decode cL_act 142 = .ok (.bipush 20, 2) := by decide +kernel
theorem dL_act_144 : decode cL_act 144 = .ok (.idiv, 1) := by decide +kernel
theorem dL_act_145 : decode cL_act 145 = .ok (.iload_n 3, 1) := by decide +kernel
theorem dL_act_146 : decode cL_act 146 = .ok (.irem, 1) := by decide +kernel
theorem dL_act_147 : decode cL_act 147 = .ok (.iload_n 2, 1) := by decide +kernel
theorem dL_act_148 : decode cL_act 148 = .ok (.sipush 200, 3) := by decide +kernel
theorem dL_act_151 : decode cL_act 151 = .ok (.idiv, 1) := by decide +kernel
theorem dL_act_152 : decode cL_act 152 = .ok (.iconst 2, 1) := by decide +kernel
theorem dL_act_153 : decode cL_act 153 = .ok (.irem, 1) := by decide +kernel
theorem dL_act_154 : decode cL_act 154 = .ok (.iconst 1, 1) := by decide +kernel
theorem dL_act_155 : decode cL_act 155 = .ok (.iload_n 2, 1) := by decide +kernel
theorem dL_act_156 : decode cL_act 156 = .ok (.sipush 400, 3) := by decide +kernel
theorem dL_act_159 : decode cL_act 159 = .ok (.idiv, 1) := by decide +kernel
theorem dL_act_160 : decode cL_act 160 = .ok (.bipush 6, 2) := by decide +kernel
theorem dL_act_162 : decode cL_act 162 = .ok (.irem, 1) := by decide +kernel
theorem dL_act_163 : decode cL_act 163 = .ok (.iadd, 1) := by decide +kernel
theorem dL_act_164 : decode cL_act 164 = .ok (.invokestatic 176, 3) := by decide +kernel
theorem dL_act_167 : decode cL_act 167 = .ok (.ireturn, 1) := by decide +kernel
theorem dL_act_168 : decode cL_act 168 = .ok (.iload_n 2, 1) := by decide +kernel
theorem dL_act_169 : decode cL_act 169 = .ok (.iconst 3, 1) := by decide +kernel
theorem dL_act_170 : decode cL_act 170 = .ok (.irem, 1) := by decide +kernel
theorem dL_act_171 : decode cL_act 171 = .ok (.ifCond .ne 16, 3) := by decide +kernel
theorem dL_act_174 : decode cL_act 174 = .ok (.aload_n 0, 1) := by decide +kernel
theorem dL_act_175 : decode cL_act 175 = .ok (.bipush 9, 2) := by decide +kernel
theorem dL_act_177 : decode cL_act 177 = .ok (.iload 6, 2) := by decide +kernel
theorem dL_act_179 : decode cL_act 179 = .ok (.iconst 0, 1) := by decide +kernel
theorem dL_act_180 : decode cL_act 180 = .ok (.iconst 0, 1) := by decide +kernel
theorem dL_act_181 : decode cL_act 181 = .ok (.invokestatic 172, 3) := by decide +kernel
theorem dL_act_184 : decode cL_act 184 = .ok (.goto 19, 3) := by decide +kernel
theorem dL_act_187 : decode cL_act 187 = .ok (.aload_n 0, 1) := by decide +kernel
theorem dL_act_188 : decode cL_act 188 = .ok (.bipush 10, 2) := by decide +kernel
theorem dL_act_190 : decode cL_act 190 = .ok (.iload 6, 2) := by decide +kernel
theorem dL_act_192 : decode cL_act 192 = .ok (.iload_n 2, 1) := by decide +kernel
theorem dL_act_193 : decode cL_act 193 = .ok (.bipush 16, 2) := by decide +kernel
theorem dL_act_195 : decode cL_act 195 = .ok (.idiv, 1) := by decide +kernel
theorem dL_act_196 : decode cL_act 196 = .ok (.bipush 31, 2) := by decide +kernel
theorem dL_act_198 : decode cL_act 198 = .ok (.irem, 1) := by decide +kernel
theorem dL_act_199 : decode cL_act 199 = .ok (.iconst 0, 1) := by decide +kernel
theorem dL_act_200 : decode cL_act 200 = .ok (.invokestatic 172, 3) := by decide +kernel
theorem dL_act_203 : decode cL_act 203 = .ok (.ireturn, 1) := by decide +kernel
theorem dL_act_204 : decode cL_act 204 = .ok (.aload_n 0, 1) := by decide +kernel
theorem dL_act_205 : decode cL_act 205 = .ok (.iload 5, 2) := by decide +kernel
theorem dL_act_207 : decode cL_act 207 = .ok (.iload_n 2, 1) := by decide +kernel
theorem dL_act_208 : decode cL_act 208 = .ok (.bipush 10, 2) := by decide +kernel
theorem dL_act_210 : decode cL_act 210 = .ok (.idiv, 1) := by decide +kernel
theorem dL_act_211 : decode cL_act 211 = .ok (.iconst 2, 1) := by decide +kernel
theorem dL_act_212 : decode cL_act 212 = .ok (.irem, 1) := by decide +kernel
theorem dL_act_213 : decode cL_act 213 = .ok (.ifCond .ne 7, 3) := by decide +kernel
theorem dL_act_216 : decode cL_act 216 = .ok (.iconst 1, 1) := by decide +kernel
theorem dL_act_217 : decode cL_act 217 = .ok (.goto 4, 3) := by decide +kernel
theorem dL_act_220 : decode cL_act 220 = .ok (.iconst 0, 1) := by decide +kernel
theorem dL_act_221 : decode cL_act 221 = .ok (.invokestatic 180, 3) := by decide +kernel
theorem dL_act_224 : decode cL_act 224 = .ok (.ireturn, 1) := by decide +kernel
theorem dL_act_225 : decode cL_act 225 = .ok (.iload_n 2, 1) := by decide +kernel
theorem dL_act_226 : decode cL_act 226 = .ok (.iconst 3, 1) := by decide +kernel
theorem dL_act_227 : decode cL_act 227 = .ok (.irem, 1) := by decide +kernel
theorem dL_act_228 : decode cL_act 228 = .ok (.ifCond .ne 25, 3) := by decide +kernel
theorem dL_act_231 : decode cL_act 231 = .ok (.aload_n 0, 1) := by decide +kernel
theorem dL_act_232 : decode cL_act 232 = .ok (.bipush 11, 2) := by decide +kernel
theorem dL_act_234 : decode cL_act 234 = .ok (.iload 5, 2) := by decide +kernel
theorem dL_act_236 : decode cL_act 236 = .ok (.bipush 10, 2) := by decide +kernel
theorem dL_act_238 : decode cL_act 238 = .ok (.iload_n 2, 1) := by decide +kernel
theorem dL_act_239 : decode cL_act 239 = .ok (.bipush 10, 2) := by decide +kernel
theorem dL_act_241 : decode cL_act 241 = .ok (.idiv, 1) := by decide +kernel
theorem dL_act_242 : decode cL_act 242 = .ok (.bipush 90, 2) := by decide +kernel
theorem dL_act_244 : decode cL_act 244 = .ok (.irem, 1) := by decide +kernel
theorem dL_act_245 : decode cL_act 245 = .ok (.iadd, 1) := by decide +kernel
theorem dL_act_246 : decode cL_act 246 = .ok (.iconst 0, 1) := by decide +kernel
theorem dL_act_247 : decode cL_act 247 = .ok (.invokestatic 172, 3) := by decide +kernel
theorem dL_act_250 : decode cL_act 250 = .ok (.goto 20, 3) := by decide +kernel
theorem dL_act_253 : decode cL_act 253 = .ok (.aload_n 0, 1) := by decide +kernel
theorem dL_act_254 : decode cL_act 254 = .ok (.bipush 12, 2) := by decide +kernel
theorem dL_act_256 : decode cL_act 256 = .ok (.iload_n 2, 1) := by decide +kernel
theorem dL_act_257 : decode cL_act 257 = .ok (.iconst 2, 1) := by decide +kernel
theorem dL_act_258 : decode cL_act 258 = .ok (.irem, 1) := by decide +kernel
theorem dL_act_259 : decode cL_act 259 = .ok (.iload_n 2, 1) := by decide +kernel
theorem dL_act_260 : decode cL_act 260 = .ok (.bipush 6, 2) := by decide +kernel
theorem dL_act_262 : decode cL_act 262 = .ok (.idiv, 1) := by decide +kernel
theorem dL_act_263 : decode cL_act 263 = .ok (.bipush 40, 2) := by decide +kernel
theorem dL_act_265 : decode cL_act 265 = .ok (.irem, 1) := by decide +kernel
theorem dL_act_266 : decode cL_act 266 = .ok (.iconst 0, 1) := by decide +kernel
theorem dL_act_267 : decode cL_act 267 = .ok (.invokestatic 172, 3) := by decide +kernel
theorem dL_act_270 : decode cL_act 270 = .ok (.ireturn, 1) := by decide +kernel
theorem dL_act_271 : decode cL_act 271 = .ok (.aload_n 0, 1) := by decide +kernel
theorem dL_act_272 : decode cL_act 272 = .ok (.iconst 2, 1) := by decide +kernel
theorem dL_act_273 : decode cL_act 273 = .ok (.iconst 2, 1) := by decide +kernel
theorem dL_act_274 : decode cL_act 274 = .ok (.iconst 0, 1) := by decide +kernel
theorem dL_act_275 : decode cL_act 275 = .ok (.iconst 0, 1) := by decide +kernel
theorem dL_act_276 : decode cL_act 276 = .ok (.invokestatic 172, 3) := by decide +kernel
theorem dL_act_279 : decode cL_act 279 = .ok (.iconst 2, 1) := by decide +kernel
theorem dL_act_280 : decode cL_act 280 = .ok (.if_icmp .ge 7, 3) := by decide +kernel
theorem dL_act_283 : decode cL_act 283 = .ok (.iconst (-1), 1) := by decide +kernel
theorem dL_act_284 : decode cL_act 284 = .ok (.goto 12, 3) := by decide +kernel
theorem dL_act_287 : decode cL_act 287 = .ok (.aload_n 0, 1) := by decide +kernel
theorem dL_act_288 : decode cL_act 288 = .ok (.bipush 14, 2) := by decide +kernel
theorem dL_act_290 : decode cL_act 290 = .ok (.iconst 0, 1) := by decide +kernel
theorem dL_act_291 : decode cL_act 291 = .ok (.iconst 0, 1) := by decide +kernel
theorem dL_act_292 : decode cL_act 292 = .ok (.iconst 0, 1) := by decide +kernel
theorem dL_act_293 : decode cL_act 293 = .ok (.invokestatic 172, 3) := by decide +kernel
theorem dL_act_296 : decode cL_act 296 = .ok (.ireturn, 1) := by decide +kernel
theorem dL_act_297 : decode cL_act 297 = .ok (.iload_n 2, 1) := by decide +kernel
theorem dL_act_298 : decode cL_act 298 = .ok (.iconst 2, 1) := by decide +kernel
theorem dL_act_299 : decode cL_act 299 = .ok (.irem, 1) := by decide +kernel
theorem dL_act_300 : decode cL_act 300 = .ok (.ifCond .ne 19, 3) := by decide +kernel
theorem dL_act_303 : decode cL_act 303 = .ok (.aload_n 0, 1) := by decide +kernel
theorem dL_act_304 : decode cL_act 304 = .ok (.bipush 19, 2) := by decide +kernel
theorem dL_act_306 : decode cL_act 306 = .ok (.iload_n 2, 1) := by decide +kernel
theorem dL_act_307 : decode cL_act 307 = .ok (.iconst 2, 1) := by decide +kernel
theorem dL_act_308 : decode cL_act 308 = .ok (.idiv, 1) := by decide +kernel
theorem dL_act_309 : decode cL_act 309 = .ok (.iconst 2, 1) := by decide +kernel
theorem dL_act_310 : decode cL_act 310 = .ok (.irem, 1) := by decide +kernel
theorem dL_act_311 : decode cL_act 311 = .ok (.iconst 0, 1) := by decide +kernel
theorem dL_act_312 : decode cL_act 312 = .ok (.iconst 0, 1) := by decide +kernel
theorem dL_act_313 : decode cL_act 313 = .ok (.invokestatic 172, 3) := by decide +kernel
theorem dL_act_316 : decode cL_act 316 = .ok (.goto 16, 3) := by decide +kernel
theorem dL_act_319 : decode cL_act 319 = .ok (.aload_n 0, 1) := by decide +kernel
theorem dL_act_320 : decode cL_act 320 = .ok (.bipush 20, 2) := by decide +kernel
theorem dL_act_322 : decode cL_act 322 = .ok (.iload_n 2, 1) := by decide +kernel
theorem dL_act_323 : decode cL_act 323 = .ok (.iconst 2, 1) := by decide +kernel
theorem dL_act_324 : decode cL_act 324 = .ok (.idiv, 1) := by decide +kernel
theorem dL_act_325 : decode cL_act 325 = .ok (.iconst 2, 1) := by decide +kernel
theorem dL_act_326 : decode cL_act 326 = .ok (.irem, 1) := by decide +kernel
theorem dL_act_327 : decode cL_act 327 = .ok (.iconst 0, 1) := by decide +kernel
theorem dL_act_328 : decode cL_act 328 = .ok (.iconst 0, 1) := by decide +kernel
theorem dL_act_329 : decode cL_act 329 = .ok (.invokestatic 172, 3) := by decide +kernel
theorem dL_act_332 : decode cL_act 332 = .ok (.ireturn, 1) := by decide +kernel
theorem dL_act_333 : decode cL_act 333 = .ok (.aload_n 0, 1) := by decide +kernel
theorem dL_act_334 : decode cL_act 334 = .ok (.bipush 13, 2) := by decide +kernel
theorem dL_act_336 : decode cL_act 336 = .ok (.iconst 1, 1) := by decide +kernel
theorem dL_act_337 : decode cL_act 337 = .ok (.iload_n 2, 1) := by decide +kernel
theorem dL_act_338 : decode cL_act 338 = .ok (.bipush 9, 2) := by decide +kernel
theorem dL_act_340 : decode cL_act 340 = .ok (.irem, 1) := by decide +kernel
theorem dL_act_341 : decode cL_act 341 = .ok (.iadd, 1) := by decide +kernel
theorem dL_act_342 : decode cL_act 342 = .ok (.iconst 0, 1) := by decide +kernel
theorem dL_act_343 : decode cL_act 343 = .ok (.iconst 0, 1) := by decide +kernel
theorem dL_act_344 : decode cL_act 344 = .ok (.invokestatic 172, 3) := by decide +kernel
theorem dL_act_347 : decode cL_act 347 = .ok (.ireturn, 1) := by decide +kernel
theorem dL_alike_0 : decode cL_alike 0 = .ok (.aload_n 0, 1) := by decide +kernel
theorem dL_alike_1 : decode cL_alike 1 = .ok (.iload_n 2, 1) := by decide +kernel
theorem dL_alike_2 : decode cL_alike 2 = .ok (.i2l, 1) := by decide +kernel
theorem dL_alike_3 : decode cL_alike 3 = .ok (.iconst 1, 1) := by decide +kernel
theorem dL_alike_4 : decode cL_alike 4 = .ok (.iload_n 2, 1) := by decide +kernel
theorem dL_alike_5 : decode cL_alike 5 = .ok (.bipush 20, 2) := by decide +kernel
theorem dL_alike_7 : decode cL_alike 7 = .ok (.irem, 1) := by decide +kernel
theorem dL_alike_8 : decode cL_alike 8 = .ok (.iadd, 1) := by decide +kernel
theorem dL_alike_9 : decode cL_alike 9 = .ok (.invokestatic 190, 3) := by decide +kernel
theorem dL_alike_12 : decode cL_alike 12 = .ok (.aload_n 1, 1) := by decide +kernel
theorem dL_alike_13 : decode cL_alike 13 = .ok (.iload_n 2, 1) := by decide +kernel
theorem dL_alike_14 : decode cL_alike 14 = .ok (.i2l, 1) := by decide +kernel
theorem dL_alike_15 : decode cL_alike 15 = .ok (.iconst 1, 1) := by decide +kernel
theorem dL_alike_16 : decode cL_alike 16 = .ok (.iload_n 2, 1) := by decide +kernel
theorem dL_alike_17 : decode cL_alike 17 = .ok (.bipush 20, 2) := by decide +kernel
theorem dL_alike_19 : decode cL_alike 19 = .ok (.irem, 1) := by decide +kernel
theorem dL_alike_20 : decode cL_alike 20 = .ok (.iadd, 1) := by decide +kernel
theorem dL_alike_21 : decode cL_alike 21 = .ok (.invokestatic 190, 3) := by decide +kernel
theorem dL_alike_24 : decode cL_alike 24 = .ok (.if_icmp .ne 18, 3) := by decide +kernel
theorem dL_alike_27 : decode cL_alike 27 = .ok (.aload_n 0, 1) := by decide +kernel
theorem dL_alike_28 : decode cL_alike 28 = .ok (.invokevirtual 194, 3) := by decide +kernel
theorem dL_alike_31 : decode cL_alike 31 = .ok (.aload_n 1, 1) := by decide +kernel
theorem dL_alike_32 : decode cL_alike 32 = .ok (.invokevirtual 194, 3) := by decide +kernel
theorem dL_alike_35 : decode cL_alike 35 = .ok (.if_icmp .ne 7, 3) := by decide +kernel
theorem dL_alike_38 : decode cL_alike 38 = .ok (.iconst 1, 1) := by decide +kernel
theorem dL_alike_39 : decode cL_alike 39 = .ok (.goto 4, 3) := by decide +kernel
theorem dL_alike_42 : decode cL_alike 42 = .ok (.iconst 0, 1) := by decide +kernel
theorem dL_alike_43 : decode cL_alike 43 = .ok (.istore_n 3, 1) := by decide +kernel
theorem dL_alike_44 : decode cL_alike 44 = .ok (.iconst 0, 1) := by decide +kernel
theorem dL_alike_45 : decode cL_alike 45 = .ok (.istore 4, 2) := by decide +kernel
theorem dL_alike_47 : decode cL_alike 47 = .ok (.iload 4, 2) := by decide +kernel
theorem dL_alike_49 : decode cL_alike 49 = .ok (.bipush 10, 2) := by decide +kernel
theorem dL_alike_51 : decode cL_alike 51 = .ok (.if_icmp .ge 158, 3) := by decide +kernel
theorem dL_alike_54 : decode cL_alike 54 = .ok (.iload_n 3, 1) := by decide +kernel
theorem dL_alike_55 : decode cL_alike 55 = .ok (.ifCond .eq 154, 3) := by decide +kernel
theorem dL_alike_58 : decode cL_alike 58 = .ok (.aload_n 0, 1) := by decide +kernel
theorem dL_alike_59 : decode cL_alike 59 = .ok (.iconst 2, 1) := by decide +kernel
theorem dL_alike_60 : decode cL_alike 60 = .ok (.iload 4, 2) := by decide +kernel
theorem dL_alike_62 : decode cL_alike 62 = .ok (.iconst 0, 1) := by decide +kernel
theorem dL_alike_63 : decode cL_alike 63 = .ok (.iconst 0, 1) := by decide +kernel
theorem dL_alike_64 : decode cL_alike 64 = .ok (.invokestatic 172, 3) := by decide +kernel
theorem dL_alike_67 : decode cL_alike 67 = .ok (.aload_n 1, 1) := by decide +kernel
theorem dL_alike_68 : decode cL_alike 68 = .ok (.iconst 2, 1) := by decide +kernel
theorem dL_alike_69 : decode cL_alike 69 = .ok (.iload 4, 2) := by decide +kernel
theorem dL_alike_71 : decode cL_alike 71 = .ok (.iconst 0, 1) := by decide +kernel
theorem dL_alike_72 : decode cL_alike 72 = .ok (.iconst 0, 1) := by decide +kernel
theorem dL_alike_73 : decode cL_alike 73 = .ok (.invokestatic 172, 3) := by decide +kernel
theorem dL_alike_76 : decode cL_alike 76 = .ok (.if_icmp .ne 125, 3) := by decide +kernel
theorem dL_alike_79 : decode cL_alike 79 = .ok (.aload_n 0, 1) := by decide +kernel
theorem dL_alike_80 : decode cL_alike 80 = .ok (.iconst 3, 1) := by decide +kernel
theorem dL_alike_81 : decode cL_alike 81 = .ok (.iload 4, 2) := by decide +kernel
theorem dL_alike_83 : decode cL_alike 83 = .ok (.iload_n 2, 1) := by decide +kernel
theorem dL_alike_84 : decode cL_alike 84 = .ok (.iconst 5, 1) := by decide +kernel
theorem dL_alike_85 : decode cL_alike 85 = .ok (.irem, 1) := by decide +kernel
theorem dL_alike_86 : decode cL_alike 86 = .ok (.iconst 0, 1) := by decide +kernel
theorem dL_alike_87 : decode cL_alike 87 = .ok (.invokestatic 172, 3) := by decide +kernel
theorem dL_alike_90 : decode cL_alike 90 = .ok (.aload_n 1, 1) := by decide +kernel
theorem dL_alike_91 : decode cL_alike 91 = .ok (.iconst 3, 1) := by decide +kernel
theorem dL_alike_92 : decode cL_alike 92 = .ok (.iload 4, 2) := by decide +kernel
theorem dL_alike_94 : decode cL_alike 94 = .ok (.iload_n 2, 1) := by decide +kernel
theorem dL_alike_95 : decode cL_alike 95 = .ok (.iconst 5, 1) := by decide +kernel
theorem dL_alike_96 : decode cL_alike 96 = .ok (.irem, 1) := by decide +kernel
theorem dL_alike_97 : decode cL_alike 97 = .ok (.iconst 0, 1) := by decide +kernel
theorem dL_alike_98 : decode cL_alike 98 = .ok (.invokestatic 172, 3) := by decide +kernel
theorem dL_alike_101 : decode cL_alike 101 = .ok (.if_icmp .ne 100, 3) := by decide +kernel
theorem dL_alike_104 : decode cL_alike 104 = .ok (.aload_n 0, 1) := by decide +kernel
theorem dL_alike_105 : decode cL_alike 105 = .ok (.iconst 4, 1) := by decide +kernel
theorem dL_alike_106 : decode cL_alike 106 = .ok (.iload 4, 2) := by decide +kernel
theorem dL_alike_108 : decode cL_alike 108 = .ok (.iload_n 2, 1) := by decide +kernel
theorem dL_alike_109 : decode cL_alike 109 = .ok (.iconst 2, 1) := by decide +kernel
theorem dL_alike_110 : decode cL_alike 110 = .ok (.irem, 1) := by decide +kernel
theorem dL_alike_111 : decode cL_alike 111 = .ok (.iconst 0, 1) := by decide +kernel
theorem dL_alike_112 : decode cL_alike 112 = .ok (.invokestatic 172, 3) := by decide +kernel
theorem dL_alike_115 : decode cL_alike 115 = .ok (.aload_n 1, 1) := by decide +kernel
theorem dL_alike_116 : decode cL_alike 116 = .ok (.iconst 4, 1) := by decide +kernel
theorem dL_alike_117 : decode cL_alike 117 = .ok (.iload 4, 2) := by decide +kernel
theorem dL_alike_119 : decode cL_alike 119 = .ok (.iload_n 2, 1) := by decide +kernel
theorem dL_alike_120 : decode cL_alike 120 = .ok (.iconst 2, 1) := by decide +kernel
theorem dL_alike_121 : decode cL_alike 121 = .ok (.irem, 1) := by decide +kernel
theorem dL_alike_122 : decode cL_alike 122 = .ok (.iconst 0, 1) := by decide +kernel
theorem dL_alike_123 : decode cL_alike 123 = .ok (.invokestatic 172, 3) := by decide +kernel
theorem dL_alike_126 : decode cL_alike 126 = .ok (.if_icmp .ne 75, 3) := by decide +kernel
theorem dL_alike_129 : decode cL_alike 129 = .ok (.aload_n 0, 1) := by decide +kernel
theorem dL_alike_130 : decode cL_alike 130 = .ok (.iconst 5, 1) := by decide +kernel
theorem dL_alike_131 : decode cL_alike 131 = .ok (.iload 4, 2) := by decide +kernel
theorem dL_alike_133 : decode cL_alike 133 = .ok (.iload_n 2, 1) := by decide +kernel
theorem dL_alike_134 : decode cL_alike 134 = .ok (.iconst 2, 1) := by decide +kernel
theorem dL_alike_135 : decode cL_alike 135 = .ok (.irem, 1) := by decide +kernel
theorem dL_alike_136 : decode cL_alike 136 = .ok (.iload_n 2, 1) := by decide +kernel
theorem dL_alike_137 : decode cL_alike 137 = .ok (.iconst 2, 1) := by decide +kernel
theorem dL_alike_138 : decode cL_alike 138 = .ok (.irem, 1) := by decide +kernel
theorem dL_alike_139 : decode cL_alike 139 = .ok (.invokestatic 172, 3) := by decide +kernel
theorem dL_alike_142 : decode cL_alike 142 = .ok (.aload_n 1, 1) := by decide +kernel
theorem dL_alike_143 : decode cL_alike 143 = .ok (.iconst 5, 1) := by decide +kernel
theorem dL_alike_144 : decode cL_alike 144 = .ok (.iload 4, 2) := by decide +kernel
theorem dL_alike_146 : decode cL_alike 146 = .ok (.iload_n 2, 1) := by decide +kernel
theorem dL_alike_147 : decode cL_alike 147 = .ok (.iconst 2, 1) := by decide +kernel
theorem dL_alike_148 : decode cL_alike 148 = .ok (.irem, 1) := by decide +kernel
theorem dL_alike_149 : decode cL_alike 149 = .ok (.iload_n 2, 1) := by decide +kernel
theorem dL_alike_150 : decode cL_alike 150 = .ok (.iconst 2, 1) := by decide +kernel
theorem dL_alike_151 : decode cL_alike 151 = .ok (.irem, 1) := by decide +kernel
theorem dL_alike_152 : decode cL_alike 152 = .ok (.invokestatic 172, 3) := by decide +kernel
theorem dL_alike_155 : decode cL_alike 155 = .ok (.if_icmp .ne 46, 3) := by decide +kernel
theorem dL_alike_158 : decode cL_alike 158 = .ok (.aload_n 0, 1) := by decide +kernel
theorem dL_alike_159 : decode cL_alike 159 = .ok (.bipush 6, 2) := by decide +kernel
theorem dL_alike_161 : decode cL_alike 161 = .ok (.iload 4, 2) := by decide +kernel
theorem dL_alike_163 : decode cL_alike 163 = .ok (.iload_n 2, 1) := by decide +kernel
theorem dL_alike_164 : decode cL_alike 164 = .ok (.bipush 7, 2) := by decide +kernel
theorem dL_alike_166 : decode cL_alike 166 = .ok (.irem, 1) := by decide +kernel
theorem dL_alike_167 : decode cL_alike 167 = .ok (.iadd, 1) := by decide +kernel
theorem dL_alike_168 : decode cL_alike 168 = .ok (.iload_n 2, 1) := by decide +kernel
theorem dL_alike_169 : decode cL_alike 169 = .ok (.bipush 8, 2) := by decide +kernel
theorem dL_alike_171 : decode cL_alike 171 = .ok (.irem, 1) := by decide +kernel
theorem dL_alike_172 : decode cL_alike 172 = .ok (.iconst 0, 1) := by decide +kernel
theorem dL_alike_173 : decode cL_alike 173 = .ok (.invokestatic 172, 3) := by decide +kernel
theorem dL_alike_176 : decode cL_alike 176 = .ok (.aload_n 1, 1) := by decide +kernel
theorem dL_alike_177 : decode cL_alike 177 = .ok (.bipush 6, 2) := by decide +kernel
theorem dL_alike_179 : decode cL_alike 179 = .ok (.iload 4, 2) := by decide +kernel
theorem dL_alike_181 : decode cL_alike 181 = .ok (.iload_n 2, 1) := by decide +kernel
theorem dL_alike_182 : decode cL_alike 182 = .ok (.bipush 7, 2) := by decide +kernel
theorem dL_alike_184 : decode cL_alike 184 = .ok (.irem, 1) := by decide +kernel
theorem dL_alike_185 : decode cL_alike 185 = .ok (.iadd, 1) := by decide +kernel
theorem dL_alike_186 : decode cL_alike 186 = .ok (.iload_n 2, 1) := by decide +kernel
theorem dL_alike_187 : decode cL_alike 187 = .ok (.bipush 8, 2) := by decide +kernel
theorem dL_alike_189 : decode cL_alike 189 = .ok (.irem, 1) := by decide +kernel
theorem dL_alike_190 : decode cL_alike 190 = .ok (.iconst 0, 1) := by decide +kernel
theorem dL_alike_191 : decode cL_alike 191 = .ok (.invokestatic 172, 3) := by decide +kernel
theorem dL_alike_194 : decode cL_alike 194 = .ok (.if_icmp .ne 7, 3) := by decide +kernel
theorem dL_alike_197 : decode cL_alike 197 = .ok (.iconst 1, 1) := by decide +kernel
theorem dL_alike_198 : decode cL_alike 198 = .ok (.goto 4, 3) := by decide +kernel
theorem dL_alike_201 : decode cL_alike 201 = .ok (.iconst 0, 1) := by decide +kernel
theorem dL_alike_202 : decode cL_alike 202 = .ok (.istore_n 3, 1) := by decide +kernel
theorem dL_alike_203 : decode cL_alike 203 = .ok (.iinc 4 1, 3) := by decide +kernel
theorem dL_alike_206 : decode cL_alike 206 = .ok (.goto (-159), 3) := by decide +kernel
theorem dL_alike_209 : decode cL_alike 209 = .ok (.iload_n 3, 1) := by decide +kernel
theorem dL_alike_210 : decode cL_alike 210 = .ok (.ireturn, 1) := by decide +kernel
theorem dL_law_0 : decode cL_law 0 = .ok (.new 8, 3) := by decide +kernel
theorem dL_law_3 : decode cL_law 3 = .ok (.dup, 1) := by decide +kernel
theorem dL_law_4 : decode cL_law 4 = .ok (.invokespecial 197, 3) := by decide +kernel
theorem dL_law_7 : decode cL_law 7 = .ok (.astore_n 1, 1) := by decide +kernel
theorem dL_law_8 : decode cL_law 8 = .ok (.new 8, 3) := by decide +kernel
theorem dL_law_11 : decode cL_law 11 = .ok (.dup, 1) := by decide +kernel
theorem dL_law_12 : decode cL_law 12 = .ok (.invokespecial 197, 3) := by decide +kernel
theorem dL_law_15 : decode cL_law 15 = .ok (.astore_n 2, 1) := by decide +kernel
theorem dL_law_16 : decode cL_law 16 = .ok (.bipush 12, 2) := by decide +kernel
theorem dL_law_18 : decode cL_law 18 = .ok (.aload_n 0, 1) := by decide +kernel
theorem dL_law_19 : decode cL_law 19 = .ok (.iconst 0, 1) := by decide +kernel
theorem dL_law_20 : decode cL_law 20 = .ok (.invokestatic 198, 3) := by decide +kernel
theorem dL_law_23 : decode cL_law 23 = .ok (.bipush 21, 2) := by decide +kernel
theorem dL_law_25 : decode cL_law 25 = .ok (.irem, 1) := by decide +kernel
theorem dL_law_26 : decode cL_law 26 = .ok (.iadd, 1) := by decide +kernel
theorem dL_law_27 : decode cL_law 27 = .ok (.istore_n 3, 1) := by decide +kernel
theorem dL_law_28 : decode cL_law 28 = .ok (.aload_n 0, 1) := by decide +kernel
theorem dL_law_29 : decode cL_law 29 = .ok (.iconst 1, 1) := by decide +kernel
theorem dL_law_30 : decode cL_law 30 = .ok (.invokestatic 198, 3) := by decide +kernel
theorem dL_law_33 : decode cL_law 33 = .ok (.istore 4, 2) := by decide +kernel
theorem dL_law_35 : decode cL_law 35 = .ok (.iconst 1, 1) := by decide +kernel
theorem dL_law_36 : decode cL_law 36 = .ok (.istore 5, 2) := by decide +kernel
theorem dL_law_38 : decode cL_law 38 = .ok (.iconst 0, 1) := by decide +kernel
theorem dL_law_39 : decode cL_law 39 = .ok (.istore 6, 2) := by decide +kernel
theorem dL_law_41 : decode cL_law 41 = .ok (.iload 6, 2) := by decide +kernel
theorem dL_law_43 : decode cL_law 43 = .ok (.iconst 4, 1) := by decide +kernel
theorem dL_law_44 : decode cL_law 44 = .ok (.if_icmp .ge 89, 3) := by decide +kernel
theorem dL_law_47 : decode cL_law 47 = .ok (.iload 5, 2) := by decide +kernel
theorem dL_law_49 : decode cL_law 49 = .ok (.ifCond .eq 84, 3) := by decide +kernel
theorem dL_law_52 : decode cL_law 52 = .ok (.iload 6, 2) := by decide +kernel
theorem dL_law_54 : decode cL_law 54 = .ok (.iconst 2, 1) := by decide +kernel
theorem dL_law_55 : decode cL_law 55 = .ok (.if_icmp .ge 7, 3) := by decide +kernel
theorem dL_law_58 : decode cL_law 58 = .ok (.iconst 0, 1) := by decide +kernel
theorem dL_law_59 : decode cL_law 59 = .ok (.goto 15, 3) := by decide +kernel
theorem dL_law_62 : decode cL_law 62 = .ok (.iload 4, 2) := by decide +kernel
theorem dL_law_64 : decode cL_law 64 = .ok (.iconst 3, 1) := by decide +kernel
theorem dL_law_65 : decode cL_law 65 = .ok (.iload 6, 2) := by decide +kernel
theorem dL_law_67 : decode cL_law 67 = .ok (.imul, 1) := by decide +kernel
theorem dL_law_68 : decode cL_law 68 = .ok (.ishr, 1) := by decide +kernel
theorem dL_law_69 : decode cL_law 69 = .ok (.bipush 7, 2) := by decide +kernel
theorem dL_law_71 : decode cL_law 71 = .ok (.iand, 1) := by decide +kernel
theorem dL_law_72 : decode cL_law 72 = .ok (.iconst 5, 1) := by decide +kernel
theorem dL_law_73 : decode cL_law 73 = .ok (.irem, 1) := by decide +kernel
theorem dL_law_74 : decode cL_law 74 = .ok (.istore 7, 2) := by decide +kernel
theorem dL_law_76 : decode cL_law 76 = .ok (.aload_n 1, 1) := by decide +kernel
theorem dL_law_77 : decode cL_law 77 = .ok (.bipush 8, 2) := by decide +kernel
theorem dL_law_79 : decode cL_law 79 = .ok (.iload 7, 2) := by decide +kernel
theorem dL_law_81 : decode cL_law 81 = .ok (.bipush 20, 2) := by decide +kernel
theorem dL_law_83 : decode cL_law 83 = .ok (.bipush 15, 2) := by decide +kernel
theorem dL_law_85 : decode cL_law 85 = .ok (.iload 6, 2) := by decide +kernel
theorem dL_law_87 : decode cL_law 87 = .ok (.imul, 1) := by decide +kernel
theorem dL_law_88 : decode cL_law 88 = .ok (.iadd, 1) := by decide +kernel
theorem dL_law_89 : decode cL_law 89 = .ok (.iconst 0, 1) := by decide +kernel
theorem dL_law_90 : decode cL_law 90 = .ok (.invokestatic 172, 3) := by decide +kernel
theorem dL_law_93 : decode cL_law 93 = .ok (.iload 6, 2) := by decide +kernel
theorem dL_law_95 : decode cL_law 95 = .ok (.if_icmp .ne 29, 3) := by decide +kernel
theorem dL_law_98 : decode cL_law 98 = .ok (.aload_n 2, 1) := by decide +kernel
theorem dL_law_99 : decode cL_law 99 = .ok (.bipush 8, 2) := by decide +kernel
theorem dL_law_101 : decode cL_law 101 = .ok (.iload 7, 2) := by decide +kernel
theorem dL_law_103 : decode cL_law 103 = .ok (.bipush 20, 2) := by decide +kernel
theorem dL_law_105 : decode cL_law 105 = .ok (.bipush 15, 2) := by decide +kernel
theorem dL_law_107 : decode cL_law 107 = .ok (.iload 6, 2) := by decide +kernel
theorem dL_law_109 : decode cL_law 109 = .ok (.imul, 1) := by decide +kernel
theorem dL_law_110 : decode cL_law 110 = .ok (.iadd, 1) := by decide +kernel
theorem dL_law_111 : decode cL_law 111 = .ok (.iconst 0, 1) := by decide +kernel
theorem dL_law_112 : decode cL_law 112 = .ok (.invokestatic 172, 3) := by decide +kernel
theorem dL_law_115 : decode cL_law 115 = .ok (.iload 6, 2) := by decide +kernel
theorem dL_law_117 : decode cL_law 117 = .ok (.if_icmp .ne 7, 3) := by decide +kernel
theorem dL_law_120 : decode cL_law 120 = .ok (.iconst 1, 1) := by decide +kernel
theorem dL_law_121 : decode cL_law 121 = .ok (.goto 4, 3) := by decide +kernel
theorem dL_law_124 : decode cL_law 124 = .ok (.iconst 0, 1) := by decide +kernel
theorem dL_law_125 : decode cL_law 125 = .ok (.istore 5, 2) := by decide +kernel
theorem dL_law_127 : decode cL_law 127 = .ok (.iinc 6 1, 3) := by decide +kernel
theorem dL_law_130 : decode cL_law 130 = .ok (.goto (-89), 3) := by decide +kernel
theorem dL_law_133 : decode cL_law 133 = .ok (.iconst 0, 1) := by decide +kernel
theorem dL_law_134 : decode cL_law 134 = .ok (.istore 6, 2) := by decide +kernel
theorem dL_law_136 : decode cL_law 136 = .ok (.iload 6, 2) := by decide +kernel
theorem dL_law_138 : decode cL_law 138 = .ok (.iload_n 3, 1) := by decide +kernel
theorem dL_law_139 : decode cL_law 139 = .ok (.if_icmp .ge 184, 3) := by decide +kernel
theorem dL_law_142 : decode cL_law 142 = .ok (.iload 5, 2) := by decide +kernel
theorem dL_law_144 : decode cL_law 144 = .ok (.ifCond .eq 179, 3) := by decide +kernel
theorem dL_law_147 : decode cL_law 147 = .ok (.aload_n 0, 1) := by decide +kernel
theorem dL_law_148 : decode cL_law 148 = .ok (.iconst 2, 1) := by decide +kernel
theorem dL_law_149 : decode cL_law 149 = .ok (.iload 6, 2) := by decide +kernel
theorem dL_law_151 : decode cL_law 151 = .ok (.iadd, 1) := by decide +kernel
theorem dL_law_152 : decode cL_law 152 = .ok (.invokestatic 198, 3) := by decide +kernel
theorem dL_law_155 : decode cL_law 155 = .ok (.istore 7, 2) := by decide +kernel
theorem dL_law_157 : decode cL_law 157 = .ok (.aload_n 1, 1) := by decide +kernel
theorem dL_law_158 : decode cL_law 158 = .ok (.iload 7, 2) := by decide +kernel
theorem dL_law_160 : decode cL_law 160 = .ok (.invokestatic 202, 3) := by decide +kernel
theorem dL_law_163 : decode cL_law 163 = .ok (.istore 8, 2) := by decide +kernel
theorem dL_law_165 : decode cL_law 165 = .ok (.aload_n 2, 1) := by decide +kernel
theorem dL_law_166 : decode cL_law 166 = .ok (.iload 7, 2) := by decide +kernel
theorem dL_law_168 : decode cL_law 168 = .ok (.ldc 205, 2) := by decide +kernel
theorem dL_law_170 : decode cL_law 170 = .ok (.irem, 1) := by decide +kernel
theorem dL_law_171 : decode cL_law 171 = .ok (.invokestatic 206, 3) := by decide +kernel
theorem dL_law_174 : decode cL_law 174 = .ok (.ifCond .eq 140, 3) := by decide +kernel
theorem dL_law_177 : decode cL_law 177 = .ok (.aload_n 2, 1) := by decide +kernel
theorem dL_law_178 : decode cL_law 178 = .ok (.iload 7, 2) := by decide +kernel
theorem dL_law_180 : decode cL_law 180 = .ok (.invokestatic 202, 3) := by decide +kernel
theorem dL_law_183 : decode cL_law 183 = .ok (.iload 8, 2) := by decide +kernel
theorem dL_law_185 : decode cL_law 185 = .ok (.if_icmp .ne 129, 3) := by decide +kernel
theorem dL_law_188 : decode cL_law 188 = .ok (.aload_n 2, 1) := by decide +kernel
theorem dL_law_189 : decode cL_law 189 = .ok (.iload 7, 2) := by decide +kernel
theorem dL_law_191 : decode cL_law 191 = .ok (.sipush 1000, 3) := by decide +kernel
theorem dL_law_194 : decode cL_law 194 = .ok (.irem, 1) := by decide +kernel
theorem dL_law_195 : decode cL_law 195 = .ok (.invokestatic 206, 3) := by decide +kernel
theorem dL_law_198 : decode cL_law 198 = .ok (.ifCond .eq 116, 3) := by decide +kernel
theorem dL_law_201 : decode cL_law 201 = .ok (.aload_n 1, 1) := by decide +kernel
theorem dL_law_202 : decode cL_law 202 = .ok (.aload_n 2, 1) := by decide +kernel
theorem dL_law_203 : decode cL_law 203 = .ok (.iload 7, 2) := by decide +kernel
theorem dL_law_205 : decode cL_law 205 = .ok (.sipush 5000, 3) := by decide +kernel
theorem dL_law_208 : decode cL_law 208 = .ok (.irem, 1) := by decide +kernel
theorem dL_law_209 : decode cL_law 209 = .ok (.invokestatic 210, 3) := by decide +kernel
theorem dL_law_212 : decode cL_law 212 = .ok (.ifCond .eq 102, 3) := by decide +kernel
theorem dL_law_215 : decode cL_law 215 = .ok (.iload 6, 2) := by decide +kernel
theorem dL_law_217 : decode cL_law 217 = .ok (.iconst 2, 1) := by decide +kernel
theorem dL_law_218 : decode cL_law 218 = .ok (.irem, 1) := by decide +kernel
theorem dL_law_219 : decode cL_law 219 = .ok (.ifCond .ne 28, 3) := by decide +kernel
theorem dL_law_222 : decode cL_law 222 = .ok (.aload_n 1, 1) := by decide +kernel
theorem dL_law_223 : decode cL_law 223 = .ok (.iload 7, 2) := by decide +kernel
theorem dL_law_225 : decode cL_law 225 = .ok (.bipush 16, 2) := by decide +kernel
theorem dL_law_227 : decode cL_law 227 = .ok (.irem, 1) := by decide +kernel
theorem dL_law_228 : decode cL_law 228 = .ok (.bipush 11, 2) := by decide +kernel
theorem dL_law_230 : decode cL_law 230 = .ok (.if_icmp .le 7, 3) := by decide +kernel
theorem dL_law_233 : decode cL_law 233 = .ok (.iconst 1, 1) := by decide +kernel
theorem dL_law_234 : decode cL_law 234 = .ok (.goto 4, 3) := by decide +kernel
theorem dL_law_237 : decode cL_law 237 = .ok (.iconst 0, 1) := by decide +kernel
theorem dL_law_238 : decode cL_law 238 = .ok (.invokestatic 214, 3) := by decide +kernel
theorem dL_law_241 : decode cL_law 241 = .ok (.ifCond .eq 73, 3) := by decide +kernel
theorem dL_law_244 : decode cL_law 244 = .ok (.goto 25, 3) := by decide +kernel
theorem dL_law_247 : decode cL_law 247 = .ok (.aload_n 2, 1) := by decide +kernel
theorem dL_law_248 : decode cL_law 248 = .ok (.iload 7, 2) := by decide +kernel
theorem dL_law_250 : decode cL_law 250 = .ok (.bipush 16, 2) := by decide +kernel
theorem dL_law_252 : decode cL_law 252 = .ok (.irem, 1) := by decide +kernel
theorem dL_law_253 : decode cL_law 253 = .ok (.bipush 11, 2) := by decide +kernel
theorem dL_law_255 : decode cL_law 255 = .ok (.if_icmp .le 7, 3) := by decide +kernel
theorem dL_law_258 : decode cL_law 258 = .ok (.iconst 1, 1) := by decide +kernel
theorem dL_law_259 : decode cL_law 259 = .ok (.goto 4, 3) := by decide +kernel
theorem dL_law_262 : decode cL_law 262 = .ok (.iconst 0, 1) := by decide +kernel
theorem dL_law_263 : decode cL_law 263 = .ok (.invokestatic 214, 3) := by decide +kernel
theorem dL_law_266 : decode cL_law 266 = .ok (.ifCond .eq 48, 3) := by decide +kernel
theorem dL_law_269 : decode cL_law 269 = .ok (.aload_n 1, 1) := by decide +kernel
theorem dL_law_270 : decode cL_law 270 = .ok (.aload_n 2, 1) := by decide +kernel
theorem dL_law_271 : decode cL_law 271 = .ok (.invokestatic 218, 3) := by decide +kernel
theorem dL_law_274 : decode cL_law 274 = .ok (.ifCond .eq 40, 3) := by decide +kernel
theorem dL_law_277 : decode cL_law 277 = .ok (.aload_n 1, 1) := by decide +kernel
theorem dL_law_278 : decode cL_law 278 = .ok (.aload_n 2, 1) := by decide +kernel
theorem dL_law_279 : decode cL_law 279 = .ok (.iload 7, 2) := by decide +kernel
theorem dL_law_281 : decode cL_law 281 = .ok (.bipush 7, 2) := by decide +kernel
theorem dL_law_283 : decode cL_law 283 = .ok (.idiv, 1) := by decide +kernel
theorem dL_law_284 : decode cL_law 284 = .ok (.invokestatic 222, 3) := by decide +kernel
theorem dL_law_287 : decode cL_law 287 = .ok (.ifCond .eq 27, 3) := by decide +kernel
theorem dL_law_290 : decode cL_law 290 = .ok (.iload 6, 2) := by decide +kernel
theorem dL_law_292 : decode cL_law 292 = .ok (.iconst 3, 1) := by decide +kernel
theorem dL_law_293 : decode cL_law 293 = .ok (.irem, 1) := by decide +kernel
theorem dL_law_294 : decode cL_law 294 = .ok (.ifCond .gt 16, 3) := by decide +kernel
theorem dL_law_297 : decode cL_law 297 = .ok (.aload_n 1, 1) := by decide +kernel
theorem dL_law_298 : decode cL_law 298 = .ok (.aload_n 2, 1) := by decide +kernel
theorem dL_law_299 : decode cL_law 299 = .ok (.iload 7, 2) := by decide +kernel
theorem dL_law_301 : decode cL_law 301 = .ok (.bipush 11, 2) := by decide +kernel
theorem dL_law_303 : decode cL_law 303 = .ok (.idiv, 1) := by decide +kernel
theorem dL_law_304 : decode cL_law 304 = .ok (.invokestatic 225, 3) := by decide +kernel
theorem dL_law_307 : decode cL_law 307 = .ok (.ifCond .eq 7, 3) := by decide +kernel
theorem dL_law_310 : decode cL_law 310 = .ok (.iconst 1, 1) := by decide +kernel
theorem dL_law_311 : decode cL_law 311 = .ok (.goto 4, 3) := by decide +kernel
theorem dL_law_314 : decode cL_law 314 = .ok (.iconst 0, 1) := by decide +kernel
theorem dL_law_315 : decode cL_law 315 = .ok (.istore 5, 2) := by decide +kernel
theorem dL_law_317 : decode cL_law 317 = .ok (.iinc 6 1, 3) := by decide +kernel
theorem dL_law_320 : decode cL_law 320 = .ok (.goto (-184), 3) := by decide +kernel
theorem dL_law_323 : decode cL_law 323 = .ok (.iload 5, 2) := by decide +kernel
theorem dL_law_325 : decode cL_law 325 = .ok (.ireturn, 1) := by decide +kernel
theorem dL_waits_0 : decode cL_waits 0 = .ok (.iconst 1, 1) := by decide +kernel
theorem dL_waits_1 : decode cL_waits 1 = .ok (.istore_n 3, 1) := by decide +kernel
theorem dL_waits_2 : decode cL_waits 2 = .ok (.iload_n 2, 1) := by decide +kernel
theorem dL_waits_3 : decode cL_waits 3 = .ok (.istore 4, 2) := by decide +kernel
theorem dL_waits_5 : decode cL_waits 5 = .ok (.iload 4, 2) := by decide +kernel
theorem dL_waits_7 : decode cL_waits 7 = .ok (.ifCond .le 67, 3) := by decide +kernel
theorem dL_waits_10 : decode cL_waits 10 = .ok (.iload_n 3, 1) := by decide +kernel
theorem dL_waits_11 : decode cL_waits 11 = .ok (.ifCond .eq 63, 3) := by decide +kernel
theorem dL_waits_14 : decode cL_waits 14 = .ok (.iload 4, 2) := by decide +kernel
theorem dL_waits_16 : decode cL_waits 16 = .ok (.bipush 99, 2) := by decide +kernel
theorem dL_waits_18 : decode cL_waits 18 = .ok (.if_icmp .le 8, 3) := by decide +kernel
theorem dL_waits_21 : decode cL_waits 21 = .ok (.bipush 99, 2) := by decide +kernel
theorem dL_waits_23 : decode cL_waits 23 = .ok (.goto 5, 3) := by decide +kernel
theorem dL_waits_26 : decode cL_waits 26 = .ok (.iload 4, 2) := by decide +kernel
theorem dL_waits_28 : decode cL_waits 28 = .ok (.istore 5, 2) := by decide +kernel
theorem dL_waits_30 : decode cL_waits 30 = .ok (.aload_n 0, 1) := by decide +kernel
theorem dL_waits_31 : decode cL_waits 31 = .ok (.bipush 13, 2) := by decide +kernel
theorem dL_waits_33 : decode cL_waits 33 = .ok (.iload 5, 2) := by decide +kernel
theorem dL_waits_35 : decode cL_waits 35 = .ok (.iconst 0, 1) := by decide +kernel
theorem dL_waits_36 : decode cL_waits 36 = .ok (.iconst 0, 1) := by decide +kernel
theorem dL_waits_37 : decode cL_waits 37 = .ok (.invokestatic 172, 3) := by decide +kernel
theorem dL_waits_40 : decode cL_waits 40 = .ok (.istore 6, 2) := by decide +kernel
theorem dL_waits_42 : decode cL_waits 42 = .ok (.iload 6, 2) := by decide +kernel
theorem dL_waits_44 : decode cL_waits 44 = .ok (.ifCond .lt 22, 3) := by decide +kernel
theorem dL_waits_47 : decode cL_waits 47 = .ok (.aload_n 1, 1) := by decide +kernel
theorem dL_waits_48 : decode cL_waits 48 = .ok (.bipush 13, 2) := by decide +kernel
theorem dL_waits_50 : decode cL_waits 50 = .ok (.iload 5, 2) := by decide +kernel
theorem dL_waits_52 : decode cL_waits 52 = .ok (.iconst 0, 1) := by decide +kernel
theorem dL_waits_53 : decode cL_waits 53 = .ok (.iconst 0, 1) := by decide +kernel
theorem dL_waits_54 : decode cL_waits 54 = .ok (.invokestatic 172, 3) := by decide +kernel
theorem dL_waits_57 : decode cL_waits 57 = .ok (.iload 6, 2) := by decide +kernel
theorem dL_waits_59 : decode cL_waits 59 = .ok (.if_icmp .ne 7, 3) := by decide +kernel
theorem dL_waits_62 : decode cL_waits 62 = .ok (.iconst 1, 1) := by decide +kernel
theorem dL_waits_63 : decode cL_waits 63 = .ok (.goto 4, 3) := by decide +kernel
theorem dL_waits_66 : decode cL_waits 66 = .ok (.iconst 0, 1) := by decide +kernel
theorem dL_waits_67 : decode cL_waits 67 = .ok (.istore_n 3, 1) := by decide +kernel
theorem dL_waits_68 : decode cL_waits 68 = .ok (.iinc 4 (-99), 3) := by decide +kernel
theorem dL_waits_71 : decode cL_waits 71 = .ok (.goto (-66), 3) := by decide +kernel
theorem dL_waits_74 : decode cL_waits 74 = .ok (.iload_n 3, 1) := by decide +kernel
theorem dL_waits_75 : decode cL_waits 75 = .ok (.ireturn, 1) := by decide +kernel
theorem dL_undoes_0 : decode cL_undoes 0 = .ok (.iconst 1, 1) := by decide +kernel
theorem dL_undoes_1 : decode cL_undoes 1 = .ok (.istore_n 3, 1) := by decide +kernel
theorem dL_undoes_2 : decode cL_undoes 2 = .ok (.iload_n 2, 1) := by decide +kernel
theorem dL_undoes_3 : decode cL_undoes 3 = .ok (.istore 4, 2) := by decide +kernel
theorem dL_undoes_5 : decode cL_undoes 5 = .ok (.iload 4, 2) := by decide +kernel
theorem dL_undoes_7 : decode cL_undoes 7 = .ok (.ifCond .le 49, 3) := by decide +kernel
theorem dL_undoes_10 : decode cL_undoes 10 = .ok (.iload_n 3, 1) := by decide +kernel
theorem dL_undoes_11 : decode cL_undoes 11 = .ok (.ifCond .eq 45, 3) := by decide +kernel
theorem dL_undoes_14 : decode cL_undoes 14 = .ok (.aload_n 0, 1) := by decide +kernel
theorem dL_undoes_15 : decode cL_undoes 15 = .ok (.bipush 14, 2) := by decide +kernel
theorem dL_undoes_17 : decode cL_undoes 17 = .ok (.iconst 0, 1) := by decide +kernel
theorem dL_undoes_18 : decode cL_undoes 18 = .ok (.iconst 0, 1) := by decide +kernel
theorem dL_undoes_19 : decode cL_undoes 19 = .ok (.iconst 0, 1) := by decide +kernel
theorem dL_undoes_20 : decode cL_undoes 20 = .ok (.invokestatic 172, 3) := by decide +kernel
theorem dL_undoes_23 : decode cL_undoes 23 = .ok (.invokestatic 228, 3) := by decide +kernel
theorem dL_undoes_26 : decode cL_undoes 26 = .ok (.ifCond .ne 22, 3) := by decide +kernel
theorem dL_undoes_29 : decode cL_undoes 29 = .ok (.aload_n 1, 1) := by decide +kernel
theorem dL_undoes_30 : decode cL_undoes 30 = .ok (.bipush 14, 2) := by decide +kernel
theorem dL_undoes_32 : decode cL_undoes 32 = .ok (.iconst 0, 1) := by decide +kernel
theorem dL_undoes_33 : decode cL_undoes 33 = .ok (.iconst 0, 1) := by decide +kernel
theorem dL_undoes_34 : decode cL_undoes 34 = .ok (.iconst 0, 1) := by decide +kernel
theorem dL_undoes_35 : decode cL_undoes 35 = .ok (.invokestatic 172, 3) := by decide +kernel
theorem dL_undoes_38 : decode cL_undoes 38 = .ok (.invokestatic 228, 3) := by decide +kernel
theorem dL_undoes_41 : decode cL_undoes 41 = .ok (.ifCond .ne 7, 3) := by decide +kernel
theorem dL_undoes_44 : decode cL_undoes 44 = .ok (.iconst 1, 1) := by decide +kernel
theorem dL_undoes_45 : decode cL_undoes 45 = .ok (.goto 4, 3) := by decide +kernel
theorem dL_undoes_48 : decode cL_undoes 48 = .ok (.iconst 0, 1) := by decide +kernel
theorem dL_undoes_49 : decode cL_undoes 49 = .ok (.istore_n 3, 1) := by decide +kernel
theorem dL_undoes_50 : decode cL_undoes 50 = .ok (.iinc 4 (-99), 3) := by decide +kernel
theorem dL_undoes_53 : decode cL_undoes 53 = .ok (.goto (-48), 3) := by decide +kernel
theorem dL_undoes_56 : decode cL_undoes 56 = .ok (.iload_n 3, 1) := by decide +kernel
theorem dL_undoes_57 : decode cL_undoes 57 = .ok (.ireturn, 1) := by decide +kernel
theorem dL_rests_0 : decode cL_rests 0 = .ok (.aload_n 0, 1) := by decide +kernel
theorem dL_rests_1 : decode cL_rests 1 = .ok (.invokevirtual 232, 3) := by decide +kernel
theorem dL_rests_4 : decode cL_rests 4 = .ok (.istore_n 2, 1) := by decide +kernel
theorem dL_rests_5 : decode cL_rests 5 = .ok (.aload_n 0, 1) := by decide +kernel
theorem dL_rests_6 : decode cL_rests 6 = .ok (.iconst 2, 1) := by decide +kernel
theorem dL_rests_7 : decode cL_rests 7 = .ok (.iconst 2, 1) := by decide +kernel
theorem dL_rests_8 : decode cL_rests 8 = .ok (.iconst 0, 1) := by decide +kernel
theorem dL_rests_9 : decode cL_rests 9 = .ok (.iconst 0, 1) := by decide +kernel
theorem dL_rests_10 : decode cL_rests 10 = .ok (.invokestatic 172, 3) := by decide +kernel
theorem dL_rests_13 : decode cL_rests 13 = .ok (.istore_n 3, 1) := by decide +kernel
theorem dL_rests_14 : decode cL_rests 14 = .ok (.iload_n 2, 1) := by decide +kernel
theorem dL_rests_15 : decode cL_rests 15 = .ok (.iconst (-1), 1) := by decide +kernel
theorem dL_rests_16 : decode cL_rests 16 = .ok (.if_icmp .lt 43, 3) := by decide +kernel
theorem dL_rests_19 : decode cL_rests 19 = .ok (.iload_n 2, 1) := by decide +kernel
theorem dL_rests_20 : decode cL_rests 20 = .ok (.sipush 300, 3) := by decide +kernel
theorem dL_rests_23 : decode cL_rests 23 = .ok (.if_icmp .gt 36, 3) := by decide +kernel
theorem dL_rests_26 : decode cL_rests 26 = .ok (.aload_n 0, 1) := by decide +kernel
theorem dL_rests_27 : decode cL_rests 27 = .ok (.iconst 1, 1) := by decide +kernel
theorem dL_rests_28 : decode cL_rests 28 = .ok (.ldc2_w 235, 3) := by decide +kernel
theorem dL_rests_31 : decode cL_rests 31 = .ok (.invokestatic 184, 3) := by decide +kernel
theorem dL_rests_34 : decode cL_rests 34 = .ok (.iconst (-1), 1) := by decide +kernel
theorem dL_rests_35 : decode cL_rests 35 = .ok (.if_icmp .ne 7, 3) := by decide +kernel
theorem dL_rests_38 : decode cL_rests 38 = .ok (.iconst 1, 1) := by decide +kernel
theorem dL_rests_39 : decode cL_rests 39 = .ok (.goto 4, 3) := by decide +kernel
theorem dL_rests_42 : decode cL_rests 42 = .ok (.iconst 0, 1) := by decide +kernel
theorem dL_rests_43 : decode cL_rests 43 = .ok (.iload_n 2, 1) := by decide +kernel
theorem dL_rests_44 : decode cL_rests 44 = .ok (.ifCond .ne 7, 3) := by decide +kernel
theorem dL_rests_47 : decode cL_rests 47 = .ok (.iconst 1, 1) := by decide +kernel
theorem dL_rests_48 : decode cL_rests 48 = .ok (.goto 4, 3) := by decide +kernel
theorem dL_rests_51 : decode cL_rests 51 = .ok (.iconst 0, 1) := by decide +kernel
theorem dL_rests_52 : decode cL_rests 52 = .ok (.if_icmp .ne 7, 3) := by decide +kernel
theorem dL_rests_55 : decode cL_rests 55 = .ok (.iconst 1, 1) := by decide +kernel
theorem dL_rests_56 : decode cL_rests 56 = .ok (.goto 4, 3) := by decide +kernel
theorem dL_rests_59 : decode cL_rests 59 = .ok (.iconst 0, 1) := by decide +kernel
theorem dL_rests_60 : decode cL_rests 60 = .ok (.istore 4, 2) := by decide +kernel
theorem dL_rests_62 : decode cL_rests 62 = .ok (.iload_n 2, 1) := by decide +kernel
theorem dL_rests_63 : decode cL_rests 63 = .ok (.iconst (-1), 1) := by decide +kernel
theorem dL_rests_64 : decode cL_rests 64 = .ok (.if_icmp .eq 10, 3) := by decide +kernel
theorem dL_rests_67 : decode cL_rests 67 = .ok (.iload_n 2, 1) := by decide +kernel
theorem dL_rests_68 : decode cL_rests 68 = .ok (.sipush 200, 3) := by decide +kernel
theorem dL_rests_71 : decode cL_rests 71 = .ok (.if_icmp .le 6, 3) := by decide +kernel
theorem dL_rests_74 : decode cL_rests 74 = .ok (.iload 4, 2) := by decide +kernel
theorem dL_rests_76 : decode cL_rests 76 = .ok (.ireturn, 1) := by decide +kernel
theorem dL_rests_77 : decode cL_rests 77 = .ok (.iload 4, 2) := by decide +kernel
theorem dL_rests_79 : decode cL_rests 79 = .ok (.ifCond .eq 39, 3) := by decide +kernel
theorem dL_rests_82 : decode cL_rests 82 = .ok (.aload_n 0, 1) := by decide +kernel
theorem dL_rests_83 : decode cL_rests 83 = .ok (.aload_n 1, 1) := by decide +kernel
theorem dL_rests_84 : decode cL_rests 84 = .ok (.iload_n 2, 1) := by decide +kernel
theorem dL_rests_85 : decode cL_rests 85 = .ok (.invokestatic 237, 3) := by decide +kernel
theorem dL_rests_88 : decode cL_rests 88 = .ok (.ifCond .eq 30, 3) := by decide +kernel
theorem dL_rests_91 : decode cL_rests 91 = .ok (.aload_n 0, 1) := by decide +kernel
theorem dL_rests_92 : decode cL_rests 92 = .ok (.invokevirtual 232, 3) := by decide +kernel
theorem dL_rests_95 : decode cL_rests 95 = .ok (.ifCond .ne 23, 3) := by decide +kernel
theorem dL_rests_98 : decode cL_rests 98 = .ok (.iload_n 2, 1) := by decide +kernel
theorem dL_rests_99 : decode cL_rests 99 = .ok (.ifCond .eq 15, 3) := by decide +kernel
theorem dL_rests_102 : decode cL_rests 102 = .ok (.aload_n 0, 1) := by decide +kernel
theorem dL_rests_103 : decode cL_rests 103 = .ok (.iconst 1, 1) := by decide +kernel
theorem dL_rests_104 : decode cL_rests 104 = .ok (.ldc2_w 235, 3) := by decide +kernel
theorem dL_rests_107 : decode cL_rests 107 = .ok (.invokestatic 184, 3) := by decide +kernel
theorem dL_rests_110 : decode cL_rests 110 = .ok (.iconst (-1), 1) := by decide +kernel
theorem dL_rests_111 : decode cL_rests 111 = .ok (.if_icmp .ne 7, 3) := by decide +kernel
theorem dL_rests_114 : decode cL_rests 114 = .ok (.iconst 1, 1) := by decide +kernel
theorem dL_rests_115 : decode cL_rests 115 = .ok (.goto 4, 3) := by decide +kernel
theorem dL_rests_118 : decode cL_rests 118 = .ok (.iconst 0, 1) := by decide +kernel
theorem dL_rests_119 : decode cL_rests 119 = .ok (.istore 4, 2) := by decide +kernel
theorem dL_rests_121 : decode cL_rests 121 = .ok (.aload_n 0, 1) := by decide +kernel
theorem dL_rests_122 : decode cL_rests 122 = .ok (.iconst 2, 1) := by decide +kernel
theorem dL_rests_123 : decode cL_rests 123 = .ok (.iconst 4, 1) := by decide +kernel
theorem dL_rests_124 : decode cL_rests 124 = .ok (.iconst 0, 1) := by decide +kernel
theorem dL_rests_125 : decode cL_rests 125 = .ok (.iconst 0, 1) := by decide +kernel
theorem dL_rests_126 : decode cL_rests 126 = .ok (.invokestatic 172, 3) := by decide +kernel
theorem dL_rests_129 : decode cL_rests 129 = .ok (.istore 5, 2) := by decide +kernel
theorem dL_rests_131 : decode cL_rests 131 = .ok (.aload_n 0, 1) := by decide +kernel
theorem dL_rests_132 : decode cL_rests 132 = .ok (.iconst 2, 1) := by decide +kernel
theorem dL_rests_133 : decode cL_rests 133 = .ok (.bipush 6, 2) := by decide +kernel
theorem dL_rests_135 : decode cL_rests 135 = .ok (.iconst 0, 1) := by decide +kernel
theorem dL_rests_136 : decode cL_rests 136 = .ok (.iconst 0, 1) := by decide +kernel
theorem dL_rests_137 : decode cL_rests 137 = .ok (.invokestatic 172, 3) := by decide +kernel
theorem dL_rests_140 : decode cL_rests 140 = .ok (.istore 6, 2) := by decide +kernel
theorem dL_rests_142 : decode cL_rests 142 = .ok (.iload 4, 2) := by decide +kernel
theorem dL_rests_144 : decode cL_rests 144 = .ok (.ifCond .eq 97, 3) := by decide +kernel
theorem dL_rests_147 : decode cL_rests 147 = .ok (.aload_n 0, 1) := by decide +kernel
theorem dL_rests_148 : decode cL_rests 148 = .ok (.bipush 13, 2) := by decide +kernel
theorem dL_rests_150 : decode cL_rests 150 = .ok (.bipush 31, 2) := by decide +kernel
theorem dL_rests_152 : decode cL_rests 152 = .ok (.iconst 0, 1) := by decide +kernel
theorem dL_rests_153 : decode cL_rests 153 = .ok (.iconst 0, 1) := by decide +kernel
theorem dL_rests_154 : decode cL_rests 154 = .ok (.invokestatic 172, 3) := by decide +kernel
theorem dL_rests_157 : decode cL_rests 157 = .ok (.ifCond .ne 84, 3) := by decide +kernel
theorem dL_rests_160 : decode cL_rests 160 = .ok (.aload_n 1, 1) := by decide +kernel
theorem dL_rests_161 : decode cL_rests 161 = .ok (.bipush 13, 2) := by decide +kernel
theorem dL_rests_163 : decode cL_rests 163 = .ok (.bipush 31, 2) := by decide +kernel
theorem dL_rests_165 : decode cL_rests 165 = .ok (.iconst 0, 1) := by decide +kernel
theorem dL_rests_166 : decode cL_rests 166 = .ok (.iconst 0, 1) := by decide +kernel
theorem dL_rests_167 : decode cL_rests 167 = .ok (.invokestatic 172, 3) := by decide +kernel
theorem dL_rests_170 : decode cL_rests 170 = .ok (.ifCond .ne 71, 3) := by decide +kernel
theorem dL_rests_173 : decode cL_rests 173 = .ok (.aload_n 0, 1) := by decide +kernel
theorem dL_rests_174 : decode cL_rests 174 = .ok (.iconst 2, 1) := by decide +kernel
theorem dL_rests_175 : decode cL_rests 175 = .ok (.iconst 4, 1) := by decide +kernel
theorem dL_rests_176 : decode cL_rests 176 = .ok (.iconst 0, 1) := by decide +kernel
theorem dL_rests_177 : decode cL_rests 177 = .ok (.iconst 0, 1) := by decide +kernel
theorem dL_rests_178 : decode cL_rests 178 = .ok (.invokestatic 172, 3) := by decide +kernel
theorem dL_rests_181 : decode cL_rests 181 = .ok (.iload 5, 2) := by decide +kernel
theorem dL_rests_183 : decode cL_rests 183 = .ok (.if_icmp .ne 58, 3) := by decide +kernel
theorem dL_rests_186 : decode cL_rests 186 = .ok (.aload_n 0, 1) := by decide +kernel
theorem dL_rests_187 : decode cL_rests 187 = .ok (.iconst 2, 1) := by decide +kernel
theorem dL_rests_188 : decode cL_rests 188 = .ok (.bipush 6, 2) := by decide +kernel
theorem dL_rests_190 : decode cL_rests 190 = .ok (.iconst 0, 1) := by decide +kernel
theorem dL_rests_191 : decode cL_rests 191 = .ok (.iconst 0, 1) := by decide +kernel
theorem dL_rests_192 : decode cL_rests 192 = .ok (.invokestatic 172, 3) := by decide +kernel
theorem dL_rests_195 : decode cL_rests 195 = .ok (.iload 6, 2) := by decide +kernel
theorem dL_rests_197 : decode cL_rests 197 = .ok (.if_icmp .ne 44, 3) := by decide +kernel
theorem dL_rests_200 : decode cL_rests 200 = .ok (.aload_n 0, 1) := by decide +kernel
theorem dL_rests_201 : decode cL_rests 201 = .ok (.invokevirtual 232, 3) := by decide +kernel
theorem dL_rests_204 : decode cL_rests 204 = .ok (.ifCond .ne 37, 3) := by decide +kernel
theorem dL_rests_207 : decode cL_rests 207 = .ok (.aload_n 0, 1) := by decide +kernel
theorem dL_rests_208 : decode cL_rests 208 = .ok (.bipush 15, 2) := by decide +kernel
theorem dL_rests_210 : decode cL_rests 210 = .ok (.iconst 0, 1) := by decide +kernel
theorem dL_rests_211 : decode cL_rests 211 = .ok (.iconst 0, 1) := by decide +kernel
theorem dL_rests_212 : decode cL_rests 212 = .ok (.iconst 0, 1) := by decide +kernel
theorem dL_rests_213 : decode cL_rests 213 = .ok (.invokestatic 172, 3) := by decide +kernel
theorem dL_rests_216 : decode cL_rests 216 = .ok (.iconst (-1), 1) := by decide +kernel
theorem dL_rests_217 : decode cL_rests 217 = .ok (.if_icmp .ne 24, 3) := by decide +kernel
theorem dL_rests_220 : decode cL_rests 220 = .ok (.aload_n 0, 1) := by decide +kernel
theorem dL_rests_221 : decode cL_rests 221 = .ok (.iconst 2, 1) := by decide +kernel
theorem dL_rests_222 : decode cL_rests 222 = .ok (.iconst 2, 1) := by decide +kernel
theorem dL_rests_223 : decode cL_rests 223 = .ok (.iconst 0, 1) := by decide +kernel
theorem dL_rests_224 : decode cL_rests 224 = .ok (.iconst 0, 1) := by decide +kernel
theorem dL_rests_225 : decode cL_rests 225 = .ok (.invokestatic 172, 3) := by decide +kernel
theorem dL_rests_228 : decode cL_rests 228 = .ok (.iload_n 3, 1) := by decide +kernel
theorem dL_rests_229 : decode cL_rests 229 = .ok (.iload_n 2, 1) := by decide +kernel
theorem dL_rests_230 : decode cL_rests 230 = .ok (.iadd, 1) := by decide +kernel
theorem dL_rests_231 : decode cL_rests 231 = .ok (.bipush 31, 2) := by decide +kernel
theorem dL_rests_233 : decode cL_rests 233 = .ok (.iadd, 1) := by decide +kernel
theorem dL_rests_234 : decode cL_rests 234 = .ok (.if_icmp .ne 7, 3) := by decide +kernel
theorem dL_rests_237 : decode cL_rests 237 = .ok (.iconst 1, 1) := by decide +kernel
theorem dL_rests_238 : decode cL_rests 238 = .ok (.goto 4, 3) := by decide +kernel
theorem dL_rests_241 : decode cL_rests 241 = .ok (.iconst 0, 1) := by decide +kernel
theorem dL_rests_242 : decode cL_rests 242 = .ok (.istore 4, 2) := by decide +kernel
theorem dL_rests_244 : decode cL_rests 244 = .ok (.iload 4, 2) := by decide +kernel
theorem dL_rests_246 : decode cL_rests 246 = .ok (.ifCond .eq 66, 3) := by decide +kernel
theorem dL_rests_249 : decode cL_rests 249 = .ok (.aload_n 0, 1) := by decide +kernel
theorem dL_rests_250 : decode cL_rests 250 = .ok (.bipush 14, 2) := by decide +kernel
theorem dL_rests_252 : decode cL_rests 252 = .ok (.iconst 0, 1) := by decide +kernel
theorem dL_rests_253 : decode cL_rests 253 = .ok (.iconst 0, 1) := by decide +kernel
theorem dL_rests_254 : decode cL_rests 254 = .ok (.iconst 0, 1) := by decide +kernel
theorem dL_rests_255 : decode cL_rests 255 = .ok (.invokestatic 172, 3) := by decide +kernel
theorem dL_rests_258 : decode cL_rests 258 = .ok (.invokestatic 228, 3) := by decide +kernel
theorem dL_rests_261 : decode cL_rests 261 = .ok (.ifCond .ne 51, 3) := by decide +kernel
theorem dL_rests_264 : decode cL_rests 264 = .ok (.aload_n 1, 1) := by decide +kernel
theorem dL_rests_265 : decode cL_rests 265 = .ok (.bipush 14, 2) := by decide +kernel
theorem dL_rests_267 : decode cL_rests 267 = .ok (.iconst 0, 1) := by decide +kernel
theorem dL_rests_268 : decode cL_rests 268 = .ok (.iconst 0, 1) := by decide +kernel
theorem dL_rests_269 : decode cL_rests 269 = .ok (.iconst 0, 1) := by decide +kernel
theorem dL_rests_270 : decode cL_rests 270 = .ok (.invokestatic 172, 3) := by decide +kernel
theorem dL_rests_273 : decode cL_rests 273 = .ok (.invokestatic 228, 3) := by decide +kernel
theorem dL_rests_276 : decode cL_rests 276 = .ok (.ifCond .ne 36, 3) := by decide +kernel
theorem dL_rests_279 : decode cL_rests 279 = .ok (.aload_n 0, 1) := by decide +kernel
theorem dL_rests_280 : decode cL_rests 280 = .ok (.aload_n 1, 1) := by decide +kernel
theorem dL_rests_281 : decode cL_rests 281 = .ok (.iload_n 2, 1) := by decide +kernel
theorem dL_rests_282 : decode cL_rests 282 = .ok (.invokestatic 240, 3) := by decide +kernel
theorem dL_rests_285 : decode cL_rests 285 = .ok (.ifCond .eq 27, 3) := by decide +kernel
theorem dL_rests_288 : decode cL_rests 288 = .ok (.aload_n 0, 1) := by decide +kernel
theorem dL_rests_289 : decode cL_rests 289 = .ok (.iconst 2, 1) := by decide +kernel
theorem dL_rests_290 : decode cL_rests 290 = .ok (.iconst 2, 1) := by decide +kernel
theorem dL_rests_291 : decode cL_rests 291 = .ok (.iconst 0, 1) := by decide +kernel
theorem dL_rests_292 : decode cL_rests 292 = .ok (.iconst 0, 1) := by decide +kernel
theorem dL_rests_293 : decode cL_rests 293 = .ok (.invokestatic 172, 3) := by decide +kernel
theorem dL_rests_296 : decode cL_rests 296 = .ok (.iload_n 3, 1) := by decide +kernel
theorem dL_rests_297 : decode cL_rests 297 = .ok (.if_icmp .ne 15, 3) := by decide +kernel
theorem dL_rests_300 : decode cL_rests 300 = .ok (.aload_n 0, 1) := by decide +kernel
theorem dL_rests_301 : decode cL_rests 301 = .ok (.invokevirtual 232, 3) := by decide +kernel
theorem dL_rests_304 : decode cL_rests 304 = .ok (.iload_n 2, 1) := by decide +kernel
theorem dL_rests_305 : decode cL_rests 305 = .ok (.if_icmp .ne 7, 3) := by decide +kernel
theorem dL_rests_308 : decode cL_rests 308 = .ok (.iconst 1, 1) := by decide +kernel
theorem dL_rests_309 : decode cL_rests 309 = .ok (.goto 4, 3) := by decide +kernel
theorem dL_rests_312 : decode cL_rests 312 = .ok (.iconst 0, 1) := by decide +kernel
theorem dL_rests_313 : decode cL_rests 313 = .ok (.ireturn, 1) := by decide +kernel
theorem dL_beats_0 : decode cL_beats 0 = .ok (.iload_n 2, 1) := by decide +kernel
theorem dL_beats_1 : decode cL_beats 1 = .ok (.aload_n 0, 1) := by decide +kernel
theorem dL_beats_2 : decode cL_beats 2 = .ok (.iconst 2, 1) := by decide +kernel
theorem dL_beats_3 : decode cL_beats 3 = .ok (.iconst 0, 1) := by decide +kernel
theorem dL_beats_4 : decode cL_beats 4 = .ok (.iconst 0, 1) := by decide +kernel
theorem dL_beats_5 : decode cL_beats 5 = .ok (.iconst 0, 1) := by decide +kernel
theorem dL_beats_6 : decode cL_beats 6 = .ok (.invokestatic 172, 3) := by decide +kernel
theorem dL_beats_9 : decode cL_beats 9 = .ok (.irem, 1) := by decide +kernel
theorem dL_beats_10 : decode cL_beats 10 = .ok (.istore_n 3, 1) := by decide +kernel
theorem dL_beats_11 : decode cL_beats 11 = .ok (.aload_n 0, 1) := by decide +kernel
theorem dL_beats_12 : decode cL_beats 12 = .ok (.iconst 2, 1) := by decide +kernel
theorem dL_beats_13 : decode cL_beats 13 = .ok (.iconst 1, 1) := by decide +kernel
theorem dL_beats_14 : decode cL_beats 14 = .ok (.iconst 0, 1) := by decide +kernel
theorem dL_beats_15 : decode cL_beats 15 = .ok (.iconst 0, 1) := by decide +kernel
theorem dL_beats_16 : decode cL_beats 16 = .ok (.invokestatic 172, 3) := by decide +kernel
theorem dL_beats_19 : decode cL_beats 19 = .ok (.istore 4, 2) := by decide +kernel
theorem dL_beats_21 : decode cL_beats 21 = .ok (.aload_n 0, 1) := by decide +kernel
theorem dL_beats_22 : decode cL_beats 22 = .ok (.bipush 15, 2) := by decide +kernel
theorem dL_beats_24 : decode cL_beats 24 = .ok (.iload_n 3, 1) := by decide +kernel
theorem dL_beats_25 : decode cL_beats 25 = .ok (.iconst 0, 1) := by decide +kernel
theorem dL_beats_26 : decode cL_beats 26 = .ok (.iconst 0, 1) := by decide +kernel
theorem dL_beats_27 : decode cL_beats 27 = .ok (.invokestatic 172, 3) := by decide +kernel
theorem dL_beats_30 : decode cL_beats 30 = .ok (.istore 5, 2) := by decide +kernel
theorem dL_beats_32 : decode cL_beats 32 = .ok (.iload 5, 2) := by decide +kernel
theorem dL_beats_34 : decode cL_beats 34 = .ok (.iconst (-1), 1) := by decide +kernel
theorem dL_beats_35 : decode cL_beats 35 = .ok (.if_icmp .eq 17, 3) := by decide +kernel
theorem dL_beats_38 : decode cL_beats 38 = .ok (.iload 5, 2) := by decide +kernel
theorem dL_beats_40 : decode cL_beats 40 = .ok (.iconst 1, 1) := by decide +kernel
theorem dL_beats_41 : decode cL_beats 41 = .ok (.if_icmp .le 15, 3) := by decide +kernel
theorem dL_beats_44 : decode cL_beats 44 = .ok (.iload 5, 2) := by decide +kernel
theorem dL_beats_46 : decode cL_beats 46 = .ok (.sipush 200, 3) := by decide +kernel
theorem dL_beats_49 : decode cL_beats 49 = .ok (.if_icmp .ge 7, 3) := by decide +kernel
theorem dL_beats_52 : decode cL_beats 52 = .ok (.iconst 1, 1) := by decide +kernel
theorem dL_beats_53 : decode cL_beats 53 = .ok (.goto 4, 3) := by decide +kernel
theorem dL_beats_56 : decode cL_beats 56 = .ok (.iconst 0, 1) := by decide +kernel
theorem dL_beats_57 : decode cL_beats 57 = .ok (.istore 6, 2) := by decide +kernel
theorem dL_beats_59 : decode cL_beats 59 = .ok (.aload_n 0, 1) := by decide +kernel
theorem dL_beats_60 : decode cL_beats 60 = .ok (.invokevirtual 232, 3) := by decide +kernel
theorem dL_beats_63 : decode cL_beats 63 = .ok (.iconst (-1), 1) := by decide +kernel
theorem dL_beats_64 : decode cL_beats 64 = .ok (.if_icmp .eq 30, 3) := by decide +kernel
theorem dL_beats_67 : decode cL_beats 67 = .ok (.aload_n 0, 1) := by decide +kernel
theorem dL_beats_68 : decode cL_beats 68 = .ok (.invokevirtual 232, 3) := by decide +kernel
theorem dL_beats_71 : decode cL_beats 71 = .ok (.bipush 100, 2) := by decide +kernel
theorem dL_beats_73 : decode cL_beats 73 = .ok (.if_icmp .ge 21, 3) := by decide +kernel
theorem dL_beats_76 : decode cL_beats 76 = .ok (.iload 6, 2) := by decide +kernel
theorem dL_beats_78 : decode cL_beats 78 = .ok (.ifCond .eq 13, 3) := by decide +kernel
theorem dL_beats_81 : decode cL_beats 81 = .ok (.iload 5, 2) := by decide +kernel
theorem dL_beats_83 : decode cL_beats 83 = .ok (.iconst (-1), 1) := by decide +kernel
theorem dL_beats_84 : decode cL_beats 84 = .ok (.if_icmp .ne 7, 3) := by decide +kernel
theorem dL_beats_87 : decode cL_beats 87 = .ok (.iconst 1, 1) := by decide +kernel
theorem dL_beats_88 : decode cL_beats 88 = .ok (.goto 4, 3) := by decide +kernel
theorem dL_beats_91 : decode cL_beats 91 = .ok (.iconst 0, 1) := by decide +kernel
theorem dL_beats_92 : decode cL_beats 92 = .ok (.istore 6, 2) := by decide +kernel
theorem dL_beats_94 : decode cL_beats 94 = .ok (.iload 4, 2) := by decide +kernel
theorem dL_beats_96 : decode cL_beats 96 = .ok (.ifCond .ne 27, 3) := by decide +kernel
theorem dL_beats_99 : decode cL_beats 99 = .ok (.iload 6, 2) := by decide +kernel
theorem dL_beats_101 : decode cL_beats 101 = .ok (.ifCond .eq 20, 3) := by decide +kernel
theorem dL_beats_104 : decode cL_beats 104 = .ok (.aload_n 0, 1) := by decide +kernel
theorem dL_beats_105 : decode cL_beats 105 = .ok (.bipush 18, 2) := by decide +kernel
theorem dL_beats_107 : decode cL_beats 107 = .ok (.iload_n 3, 1) := by decide +kernel
theorem dL_beats_108 : decode cL_beats 108 = .ok (.iconst 5, 1) := by decide +kernel
theorem dL_beats_109 : decode cL_beats 109 = .ok (.iconst 0, 1) := by decide +kernel
theorem dL_beats_110 : decode cL_beats 110 = .ok (.invokestatic 172, 3) := by decide +kernel
theorem dL_beats_113 : decode cL_beats 113 = .ok (.iconst (-1), 1) := by decide +kernel
theorem dL_beats_114 : decode cL_beats 114 = .ok (.if_icmp .ne 7, 3) := by decide +kernel
theorem dL_beats_117 : decode cL_beats 117 = .ok (.iconst 1, 1) := by decide +kernel
theorem dL_beats_118 : decode cL_beats 118 = .ok (.goto 4, 3) := by decide +kernel
theorem dL_beats_121 : decode cL_beats 121 = .ok (.iconst 0, 1) := by decide +kernel
theorem dL_beats_122 : decode cL_beats 122 = .ok (.ireturn, 1) := by decide +kernel
theorem dL_beats_123 : decode cL_beats 123 = .ok (.iload_n 2, 1) := by decide +kernel
theorem dL_beats_124 : decode cL_beats 124 = .ok (.bipush 16, 2) := by decide +kernel
theorem dL_beats_126 : decode cL_beats 126 = .ok (.idiv, 1) := by decide +kernel
theorem dL_beats_127 : decode cL_beats 127 = .ok (.iload 4, 2) := by decide +kernel
theorem dL_beats_129 : decode cL_beats 129 = .ok (.irem, 1) := by decide +kernel
theorem dL_beats_130 : decode cL_beats 130 = .ok (.istore 7, 2) := by decide +kernel
theorem dL_beats_132 : decode cL_beats 132 = .ok (.iload_n 2, 1) := by decide +kernel
theorem dL_beats_133 : decode cL_beats 133 = .ok (.sipush 256, 3) := by decide +kernel
theorem dL_beats_136 : decode cL_beats 136 = .ok (.idiv, 1) := by decide +kernel
theorem dL_beats_137 : decode cL_beats 137 = .ok (.bipush 31, 2) := by decide +kernel
theorem dL_beats_139 : decode cL_beats 139 = .ok (.irem, 1) := by decide +kernel
theorem dL_beats_140 : decode cL_beats 140 = .ok (.istore 8, 2) := by decide +kernel
theorem dL_beats_142 : decode cL_beats 142 = .ok (.aload_n 0, 1) := by decide +kernel
theorem dL_beats_143 : decode cL_beats 143 = .ok (.bipush 6, 2) := by decide +kernel
theorem dL_beats_145 : decode cL_beats 145 = .ok (.iload 7, 2) := by decide +kernel
theorem dL_beats_147 : decode cL_beats 147 = .ok (.iconst 5, 1) := by decide +kernel
theorem dL_beats_148 : decode cL_beats 148 = .ok (.iconst 0, 1) := by decide +kernel
theorem dL_beats_149 : decode cL_beats 149 = .ok (.invokestatic 172, 3) := by decide +kernel
theorem dL_beats_152 : decode cL_beats 152 = .ok (.istore 9, 2) := by decide +kernel
theorem dL_beats_154 : decode cL_beats 154 = .ok (.aload_n 0, 1) := by decide +kernel
theorem dL_beats_155 : decode cL_beats 155 = .ok (.bipush 17, 2) := by decide +kernel
theorem dL_beats_157 : decode cL_beats 157 = .ok (.iload 7, 2) := by decide +kernel
theorem dL_beats_159 : decode cL_beats 159 = .ok (.iload 8, 2) := by decide +kernel
theorem dL_beats_161 : decode cL_beats 161 = .ok (.iload_n 3, 1) := by decide +kernel
theorem dL_beats_162 : decode cL_beats 162 = .ok (.invokestatic 172, 3) := by decide +kernel
theorem dL_beats_165 : decode cL_beats 165 = .ok (.istore 10, 2) := by decide +kernel
theorem dL_beats_167 : decode cL_beats 167 = .ok (.iload 6, 2) := by decide +kernel
theorem dL_beats_169 : decode cL_beats 169 = .ok (.ifCond .eq 99, 3) := by decide +kernel
theorem dL_beats_172 : decode cL_beats 172 = .ok (.aload_n 0, 1) := by decide +kernel
theorem dL_beats_173 : decode cL_beats 173 = .ok (.bipush 17, 2) := by decide +kernel
theorem dL_beats_175 : decode cL_beats 175 = .ok (.iload 7, 2) := by decide +kernel
theorem dL_beats_177 : decode cL_beats 177 = .ok (.iload 9, 2) := by decide +kernel
theorem dL_beats_179 : decode cL_beats 179 = .ok (.iload_n 3, 1) := by decide +kernel
theorem dL_beats_180 : decode cL_beats 180 = .ok (.invokestatic 172, 3) := by decide +kernel
theorem dL_beats_183 : decode cL_beats 183 = .ok (.iload 5, 2) := by decide +kernel
theorem dL_beats_185 : decode cL_beats 185 = .ok (.if_icmp .ne 83, 3) := by decide +kernel
theorem dL_beats_188 : decode cL_beats 188 = .ok (.aload_n 0, 1) := by decide +kernel
theorem dL_beats_189 : decode cL_beats 189 = .ok (.bipush 10, 2) := by decide +kernel
theorem dL_beats_191 : decode cL_beats 191 = .ok (.iload 7, 2) := by decide +kernel
theorem dL_beats_193 : decode cL_beats 193 = .ok (.iload 8, 2) := by decide +kernel
theorem dL_beats_195 : decode cL_beats 195 = .ok (.iconst 0, 1) := by decide +kernel
theorem dL_beats_196 : decode cL_beats 196 = .ok (.invokestatic 172, 3) := by decide +kernel
theorem dL_beats_199 : decode cL_beats 199 = .ok (.iload 9, 2) := by decide +kernel
theorem dL_beats_201 : decode cL_beats 201 = .ok (.if_icmp .ne 67, 3) := by decide +kernel
theorem dL_beats_204 : decode cL_beats 204 = .ok (.aload_n 1, 1) := by decide +kernel
theorem dL_beats_205 : decode cL_beats 205 = .ok (.bipush 10, 2) := by decide +kernel
theorem dL_beats_207 : decode cL_beats 207 = .ok (.iload 7, 2) := by decide +kernel
theorem dL_beats_209 : decode cL_beats 209 = .ok (.iload 8, 2) := by decide +kernel
theorem dL_beats_211 : decode cL_beats 211 = .ok (.iconst 0, 1) := by decide +kernel
theorem dL_beats_212 : decode cL_beats 212 = .ok (.invokestatic 172, 3) := by decide +kernel
theorem dL_beats_215 : decode cL_beats 215 = .ok (.iload 9, 2) := by decide +kernel
theorem dL_beats_217 : decode cL_beats 217 = .ok (.if_icmp .ne 51, 3) := by decide +kernel
theorem dL_beats_220 : decode cL_beats 220 = .ok (.aload_n 0, 1) := by decide +kernel
theorem dL_beats_221 : decode cL_beats 221 = .ok (.bipush 15, 2) := by decide +kernel
theorem dL_beats_223 : decode cL_beats 223 = .ok (.iload_n 3, 1) := by decide +kernel
theorem dL_beats_224 : decode cL_beats 224 = .ok (.iconst 0, 1) := by decide +kernel
theorem dL_beats_225 : decode cL_beats 225 = .ok (.iconst 0, 1) := by decide +kernel
theorem dL_beats_226 : decode cL_beats 226 = .ok (.invokestatic 172, 3) := by decide +kernel
theorem dL_beats_229 : decode cL_beats 229 = .ok (.iload 10, 2) := by decide +kernel
theorem dL_beats_231 : decode cL_beats 231 = .ok (.if_icmp .ne 37, 3) := by decide +kernel
theorem dL_beats_234 : decode cL_beats 234 = .ok (.aload_n 0, 1) := by decide +kernel
theorem dL_beats_235 : decode cL_beats 235 = .ok (.bipush 14, 2) := by decide +kernel
theorem dL_beats_237 : decode cL_beats 237 = .ok (.iconst 0, 1) := by decide +kernel
theorem dL_beats_238 : decode cL_beats 238 = .ok (.iconst 0, 1) := by decide +kernel
theorem dL_beats_239 : decode cL_beats 239 = .ok (.iconst 0, 1) := by decide +kernel
theorem dL_beats_240 : decode cL_beats 240 = .ok (.invokestatic 172, 3) := by decide +kernel
theorem dL_beats_243 : decode cL_beats 243 = .ok (.invokestatic 228, 3) := by decide +kernel
theorem dL_beats_246 : decode cL_beats 246 = .ok (.ifCond .ne 22, 3) := by decide +kernel
theorem dL_beats_249 : decode cL_beats 249 = .ok (.aload_n 1, 1) := by decide +kernel
theorem dL_beats_250 : decode cL_beats 250 = .ok (.bipush 14, 2) := by decide +kernel
theorem dL_beats_252 : decode cL_beats 252 = .ok (.iconst 0, 1) := by decide +kernel
theorem dL_beats_253 : decode cL_beats 253 = .ok (.iconst 0, 1) := by decide +kernel
theorem dL_beats_254 : decode cL_beats 254 = .ok (.iconst 0, 1) := by decide +kernel
theorem dL_beats_255 : decode cL_beats 255 = .ok (.invokestatic 172, 3) := by decide +kernel
theorem dL_beats_258 : decode cL_beats 258 = .ok (.invokestatic 228, 3) := by decide +kernel
theorem dL_beats_261 : decode cL_beats 261 = .ok (.ifCond .ne 7, 3) := by decide +kernel
theorem dL_beats_264 : decode cL_beats 264 = .ok (.iconst 1, 1) := by decide +kernel
theorem dL_beats_265 : decode cL_beats 265 = .ok (.goto 4, 3) := by decide +kernel
theorem dL_beats_268 : decode cL_beats 268 = .ok (.iconst 0, 1) := by decide +kernel
theorem dL_beats_269 : decode cL_beats 269 = .ok (.istore 6, 2) := by decide +kernel
theorem dL_beats_271 : decode cL_beats 271 = .ok (.iload_n 2, 1) := by decide +kernel
theorem dL_beats_272 : decode cL_beats 272 = .ok (.iconst 4, 1) := by decide +kernel
theorem dL_beats_273 : decode cL_beats 273 = .ok (.irem, 1) := by decide +kernel
theorem dL_beats_274 : decode cL_beats 274 = .ok (.ifCond .ne 134, 3) := by decide +kernel
theorem dL_beats_277 : decode cL_beats 277 = .ok (.aload_n 0, 1) := by decide +kernel
theorem dL_beats_278 : decode cL_beats 278 = .ok (.bipush 18, 2) := by decide +kernel
theorem dL_beats_280 : decode cL_beats 280 = .ok (.iload_n 3, 1) := by decide +kernel
theorem dL_beats_281 : decode cL_beats 281 = .ok (.iload 10, 2) := by decide +kernel
theorem dL_beats_283 : decode cL_beats 283 = .ok (.iconst 0, 1) := by decide +kernel
theorem dL_beats_284 : decode cL_beats 284 = .ok (.invokestatic 172, 3) := by decide +kernel
theorem dL_beats_287 : decode cL_beats 287 = .ok (.istore 11, 2) := by decide +kernel
theorem dL_beats_289 : decode cL_beats 289 = .ok (.iconst 0, 1) := by decide +kernel
theorem dL_beats_290 : decode cL_beats 290 = .ok (.istore 12, 2) := by decide +kernel
theorem dL_beats_292 : decode cL_beats 292 = .ok (.iconst 1, 1) := by decide +kernel
theorem dL_beats_293 : decode cL_beats 293 = .ok (.istore 13, 2) := by decide +kernel
theorem dL_beats_295 : decode cL_beats 295 = .ok (.iload 13, 2) := by decide +kernel
theorem dL_beats_297 : decode cL_beats 297 = .ok (.bipush 31, 2) := by decide +kernel
theorem dL_beats_299 : decode cL_beats 299 = .ok (.if_icmp .ge 43, 3) := by decide +kernel
theorem dL_beats_302 : decode cL_beats 302 = .ok (.iload 11, 2) := by decide +kernel
theorem dL_beats_304 : decode cL_beats 304 = .ok (.iconst (-1), 1) := by decide +kernel
theorem dL_beats_305 : decode cL_beats 305 = .ok (.if_icmp .eq 37, 3) := by decide +kernel
theorem dL_beats_308 : decode cL_beats 308 = .ok (.iload 12, 2) := by decide +kernel
theorem dL_beats_310 : decode cL_beats 310 = .ok (.ifCond .ne 32, 3) := by decide +kernel
theorem dL_beats_313 : decode cL_beats 313 = .ok (.aload_n 0, 1) := by decide +kernel
theorem dL_beats_314 : decode cL_beats 314 = .ok (.bipush 17, 2) := by decide +kernel
theorem dL_beats_316 : decode cL_beats 316 = .ok (.iload 11, 2) := by decide +kernel
theorem dL_beats_318 : decode cL_beats 318 = .ok (.iload 13, 2) := by decide +kernel
theorem dL_beats_320 : decode cL_beats 320 = .ok (.iload_n 3, 1) := by decide +kernel
theorem dL_beats_321 : decode cL_beats 321 = .ok (.invokestatic 172, 3) := by decide +kernel
theorem dL_beats_324 : decode cL_beats 324 = .ok (.iload 10, 2) := by decide +kernel
theorem dL_beats_326 : decode cL_beats 326 = .ok (.if_icmp .ne 7, 3) := by decide +kernel
theorem dL_beats_329 : decode cL_beats 329 = .ok (.iconst 1, 1) := by decide +kernel
theorem dL_beats_330 : decode cL_beats 330 = .ok (.goto 4, 3) := by decide +kernel
theorem dL_beats_333 : decode cL_beats 333 = .ok (.iconst 0, 1) := by decide +kernel
theorem dL_beats_334 : decode cL_beats 334 = .ok (.istore 12, 2) := by decide +kernel
theorem dL_beats_336 : decode cL_beats 336 = .ok (.iinc 13 1, 3) := by decide +kernel
theorem dL_beats_339 : decode cL_beats 339 = .ok (.goto (-44), 3) := by decide +kernel
theorem dL_beats_342 : decode cL_beats 342 = .ok (.iload 6, 2) := by decide +kernel
theorem dL_beats_344 : decode cL_beats 344 = .ok (.ifCond .eq 61, 3) := by decide +kernel
theorem dL_beats_347 : decode cL_beats 347 = .ok (.iload 11, 2) := by decide +kernel
theorem dL_beats_349 : decode cL_beats 349 = .ok (.iconst (-1), 1) := by decide +kernel
theorem dL_beats_350 : decode cL_beats 350 = .ok (.if_icmp .ne 16, 3) := by decide +kernel
theorem dL_beats_353 : decode cL_beats 353 = .ok (.iload 9, 2) := by decide +kernel
theorem dL_beats_355 : decode cL_beats 355 = .ok (.ifCond .gt 46, 3) := by decide +kernel
theorem dL_beats_358 : decode cL_beats 358 = .ok (.iload 8, 2) := by decide +kernel
theorem dL_beats_360 : decode cL_beats 360 = .ok (.ifCond .ne 45, 3) := by decide +kernel
theorem dL_beats_363 : decode cL_beats 363 = .ok (.goto 38, 3) := by decide +kernel
theorem dL_beats_366 : decode cL_beats 366 = .ok (.iload 12, 2) := by decide +kernel
theorem dL_beats_368 : decode cL_beats 368 = .ok (.ifCond .eq 37, 3) := by decide +kernel
theorem dL_beats_371 : decode cL_beats 371 = .ok (.aload_n 0, 1) := by decide +kernel
theorem dL_beats_372 : decode cL_beats 372 = .ok (.bipush 6, 2) := by decide +kernel
theorem dL_beats_374 : decode cL_beats 374 = .ok (.iload 11, 2) := by decide +kernel
theorem dL_beats_376 : decode cL_beats 376 = .ok (.iconst 5, 1) := by decide +kernel
theorem dL_beats_377 : decode cL_beats 377 = .ok (.iconst 0, 1) := by decide +kernel
theorem dL_beats_378 : decode cL_beats 378 = .ok (.invokestatic 172, 3) := by decide +kernel
theorem dL_beats_381 : decode cL_beats 381 = .ok (.ifCond .ne 24, 3) := by decide +kernel
theorem dL_beats_384 : decode cL_beats 384 = .ok (.iload 9, 2) := by decide +kernel
theorem dL_beats_386 : decode cL_beats 386 = .ok (.ifCond .gt 15, 3) := by decide +kernel
theorem dL_beats_389 : decode cL_beats 389 = .ok (.iload 8, 2) := by decide +kernel
theorem dL_beats_391 : decode cL_beats 391 = .ok (.ifCond .eq 10, 3) := by decide +kernel
theorem dL_beats_394 : decode cL_beats 394 = .ok (.iload 11, 2) := by decide +kernel
theorem dL_beats_396 : decode cL_beats 396 = .ok (.iload 7, 2) := by decide +kernel
theorem dL_beats_398 : decode cL_beats 398 = .ok (.if_icmp .gt 7, 3) := by decide +kernel
theorem dL_beats_401 : decode cL_beats 401 = .ok (.iconst 1, 1) := by decide +kernel
theorem dL_beats_402 : decode cL_beats 402 = .ok (.goto 4, 3) := by decide +kernel
theorem dL_beats_405 : decode cL_beats 405 = .ok (.iconst 0, 1) := by decide +kernel
theorem dL_beats_406 : decode cL_beats 406 = .ok (.istore 6, 2) := by decide +kernel
theorem dL_beats_408 : decode cL_beats 408 = .ok (.iload 6, 2) := by decide +kernel
theorem dL_beats_410 : decode cL_beats 410 = .ok (.ifCond .eq 22, 3) := by decide +kernel
theorem dL_beats_413 : decode cL_beats 413 = .ok (.aload_n 0, 1) := by decide +kernel
theorem dL_beats_414 : decode cL_beats 414 = .ok (.bipush 6, 2) := by decide +kernel
theorem dL_beats_416 : decode cL_beats 416 = .ok (.iload 7, 2) := by decide +kernel
theorem dL_beats_418 : decode cL_beats 418 = .ok (.iconst 5, 1) := by decide +kernel
theorem dL_beats_419 : decode cL_beats 419 = .ok (.iconst 0, 1) := by decide +kernel
theorem dL_beats_420 : decode cL_beats 420 = .ok (.invokestatic 172, 3) := by decide +kernel
theorem dL_beats_423 : decode cL_beats 423 = .ok (.iload 9, 2) := by decide +kernel
theorem dL_beats_425 : decode cL_beats 425 = .ok (.if_icmp .ne 7, 3) := by decide +kernel
theorem dL_beats_428 : decode cL_beats 428 = .ok (.iconst 1, 1) := by decide +kernel
theorem dL_beats_429 : decode cL_beats 429 = .ok (.goto 4, 3) := by decide +kernel
theorem dL_beats_432 : decode cL_beats 432 = .ok (.iconst 0, 1) := by decide +kernel
theorem dL_beats_433 : decode cL_beats 433 = .ok (.ireturn, 1) := by decide +kernel
theorem dL_rules_0 : decode cL_rules 0 = .ok (.iload_n 2, 1) := by decide +kernel
theorem dL_rules_1 : decode cL_rules 1 = .ok (.aload_n 0, 1) := by decide +kernel
theorem dL_rules_2 : decode cL_rules 2 = .ok (.iconst 2, 1) := by decide +kernel
theorem dL_rules_3 : decode cL_rules 3 = .ok (.iconst 0, 1) := by decide +kernel
theorem dL_rules_4 : decode cL_rules 4 = .ok (.iconst 0, 1) := by decide +kernel
theorem dL_rules_5 : decode cL_rules 5 = .ok (.iconst 0, 1) := by decide +kernel
theorem dL_rules_6 : decode cL_rules 6 = .ok (.invokestatic 172, 3) := by decide +kernel
theorem dL_rules_9 : decode cL_rules 9 = .ok (.irem, 1) := by decide +kernel
theorem dL_rules_10 : decode cL_rules 10 = .ok (.istore_n 3, 1) := by decide +kernel
theorem dL_rules_11 : decode cL_rules 11 = .ok (.aload_n 0, 1) := by decide +kernel
theorem dL_rules_12 : decode cL_rules 12 = .ok (.bipush 16, 2) := by decide +kernel
theorem dL_rules_14 : decode cL_rules 14 = .ok (.iconst 0, 1) := by decide +kernel
theorem dL_rules_15 : decode cL_rules 15 = .ok (.iconst 1, 1) := by decide +kernel
theorem dL_rules_16 : decode cL_rules 16 = .ok (.iload_n 3, 1) := by decide +kernel
theorem dL_rules_17 : decode cL_rules 17 = .ok (.invokestatic 172, 3) := by decide +kernel
theorem dL_rules_20 : decode cL_rules 20 = .ok (.istore 4, 2) := by decide +kernel
theorem dL_rules_22 : decode cL_rules 22 = .ok (.aload_n 0, 1) := by decide +kernel
theorem dL_rules_23 : decode cL_rules 23 = .ok (.iconst 2, 1) := by decide +kernel
theorem dL_rules_24 : decode cL_rules 24 = .ok (.iconst 2, 1) := by decide +kernel
theorem dL_rules_25 : decode cL_rules 25 = .ok (.iconst 0, 1) := by decide +kernel
theorem dL_rules_26 : decode cL_rules 26 = .ok (.iconst 0, 1) := by decide +kernel
theorem dL_rules_27 : decode cL_rules 27 = .ok (.invokestatic 172, 3) := by decide +kernel
theorem dL_rules_30 : decode cL_rules 30 = .ok (.istore 5, 2) := by decide +kernel
theorem dL_rules_32 : decode cL_rules 32 = .ok (.iload_n 2, 1) := by decide +kernel
theorem dL_rules_33 : decode cL_rules 33 = .ok (.bipush 16, 2) := by decide +kernel
theorem dL_rules_35 : decode cL_rules 35 = .ok (.idiv, 1) := by decide +kernel
theorem dL_rules_36 : decode cL_rules 36 = .ok (.iconst 4, 1) := by decide +kernel
theorem dL_rules_37 : decode cL_rules 37 = .ok (.irem, 1) := by decide +kernel
theorem dL_rules_38 : decode cL_rules 38 = .ok (.istore 6, 2) := by decide +kernel
theorem dL_rules_40 : decode cL_rules 40 = .ok (.iload 4, 2) := by decide +kernel
theorem dL_rules_42 : decode cL_rules 42 = .ok (.iconst (-1), 1) := by decide +kernel
theorem dL_rules_43 : decode cL_rules 43 = .ok (.if_icmp .lt 14, 3) := by decide +kernel
theorem dL_rules_46 : decode cL_rules 46 = .ok (.iload 4, 2) := by decide +kernel
theorem dL_rules_48 : decode cL_rules 48 = .ok (.bipush 16, 2) := by decide +kernel
theorem dL_rules_50 : decode cL_rules 50 = .ok (.if_icmp .ge 7, 3) := by decide +kernel
theorem dL_rules_53 : decode cL_rules 53 = .ok (.iconst 1, 1) := by decide +kernel
theorem dL_rules_54 : decode cL_rules 54 = .ok (.goto 4, 3) := by decide +kernel
theorem dL_rules_57 : decode cL_rules 57 = .ok (.iconst 0, 1) := by decide +kernel
theorem dL_rules_58 : decode cL_rules 58 = .ok (.istore 7, 2) := by decide +kernel
theorem dL_rules_60 : decode cL_rules 60 = .ok (.aload_n 0, 1) := by decide +kernel
theorem dL_rules_61 : decode cL_rules 61 = .ok (.iconst 0, 1) := by decide +kernel
theorem dL_rules_62 : decode cL_rules 62 = .ok (.iload 6, 2) := by decide +kernel
theorem dL_rules_64 : decode cL_rules 64 = .ok (.iconst 1, 1) := by decide +kernel
theorem dL_rules_65 : decode cL_rules 65 = .ok (.iand, 1) := by decide +kernel
theorem dL_rules_66 : decode cL_rules 66 = .ok (.iconst 1, 1) := by decide +kernel
theorem dL_rules_67 : decode cL_rules 67 = .ok (.if_icmp .ne 7, 3) := by decide +kernel
theorem dL_rules_70 : decode cL_rules 70 = .ok (.iconst 1, 1) := by decide +kernel
theorem dL_rules_71 : decode cL_rules 71 = .ok (.goto 4, 3) := by decide +kernel
theorem dL_rules_74 : decode cL_rules 74 = .ok (.iconst 0, 1) := by decide +kernel
theorem dL_rules_75 : decode cL_rules 75 = .ok (.invokestatic 180, 3) := by decide +kernel
theorem dL_rules_78 : decode cL_rules 78 = .ok (.istore 8, 2) := by decide +kernel
theorem dL_rules_80 : decode cL_rules 80 = .ok (.aload_n 0, 1) := by decide +kernel
theorem dL_rules_81 : decode cL_rules 81 = .ok (.iconst 1, 1) := by decide +kernel
theorem dL_rules_82 : decode cL_rules 82 = .ok (.iload 6, 2) := by decide +kernel
theorem dL_rules_84 : decode cL_rules 84 = .ok (.iconst 1, 1) := by decide +kernel
theorem dL_rules_85 : decode cL_rules 85 = .ok (.if_icmp .le 7, 3) := by decide +kernel
theorem dL_rules_88 : decode cL_rules 88 = .ok (.iconst 1, 1) := by decide +kernel
theorem dL_rules_89 : decode cL_rules 89 = .ok (.goto 4, 3) := by decide +kernel
theorem dL_rules_92 : decode cL_rules 92 = .ok (.iconst 0, 1) := by decide +kernel
theorem dL_rules_93 : decode cL_rules 93 = .ok (.invokestatic 180, 3) := by decide +kernel
theorem dL_rules_96 : decode cL_rules 96 = .ok (.istore 9, 2) := by decide +kernel
theorem dL_rules_98 : decode cL_rules 98 = .ok (.iload 7, 2) := by decide +kernel
theorem dL_rules_100 : decode cL_rules 100 = .ok (.ifCond .eq 109, 3) := by decide +kernel
theorem dL_rules_103 : decode cL_rules 103 = .ok (.aload_n 1, 1) := by decide +kernel
theorem dL_rules_104 : decode cL_rules 104 = .ok (.iconst 0, 1) := by decide +kernel
theorem dL_rules_105 : decode cL_rules 105 = .ok (.iload 6, 2) := by decide +kernel
theorem dL_rules_107 : decode cL_rules 107 = .ok (.iconst 1, 1) := by decide +kernel
theorem dL_rules_108 : decode cL_rules 108 = .ok (.iand, 1) := by decide +kernel
theorem dL_rules_109 : decode cL_rules 109 = .ok (.iconst 1, 1) := by decide +kernel
theorem dL_rules_110 : decode cL_rules 110 = .ok (.if_icmp .ne 7, 3) := by decide +kernel
theorem dL_rules_113 : decode cL_rules 113 = .ok (.iconst 1, 1) := by decide +kernel
theorem dL_rules_114 : decode cL_rules 114 = .ok (.goto 4, 3) := by decide +kernel
theorem dL_rules_117 : decode cL_rules 117 = .ok (.iconst 0, 1) := by decide +kernel
theorem dL_rules_118 : decode cL_rules 118 = .ok (.invokestatic 180, 3) := by decide +kernel
theorem dL_rules_121 : decode cL_rules 121 = .ok (.iload 8, 2) := by decide +kernel
theorem dL_rules_123 : decode cL_rules 123 = .ok (.if_icmp .ne 86, 3) := by decide +kernel
theorem dL_rules_126 : decode cL_rules 126 = .ok (.aload_n 1, 1) := by decide +kernel
theorem dL_rules_127 : decode cL_rules 127 = .ok (.iconst 1, 1) := by decide +kernel
theorem dL_rules_128 : decode cL_rules 128 = .ok (.iload 6, 2) := by decide +kernel
theorem dL_rules_130 : decode cL_rules 130 = .ok (.iconst 1, 1) := by decide +kernel
theorem dL_rules_131 : decode cL_rules 131 = .ok (.if_icmp .le 7, 3) := by decide +kernel
theorem dL_rules_134 : decode cL_rules 134 = .ok (.iconst 1, 1) := by decide +kernel
theorem dL_rules_135 : decode cL_rules 135 = .ok (.goto 4, 3) := by decide +kernel
theorem dL_rules_138 : decode cL_rules 138 = .ok (.iconst 0, 1) := by decide +kernel
theorem dL_rules_139 : decode cL_rules 139 = .ok (.invokestatic 180, 3) := by decide +kernel
theorem dL_rules_142 : decode cL_rules 142 = .ok (.iload 9, 2) := by decide +kernel
theorem dL_rules_144 : decode cL_rules 144 = .ok (.if_icmp .ne 65, 3) := by decide +kernel
theorem dL_rules_147 : decode cL_rules 147 = .ok (.aload_n 0, 1) := by decide +kernel
theorem dL_rules_148 : decode cL_rules 148 = .ok (.aload_n 1, 1) := by decide +kernel
theorem dL_rules_149 : decode cL_rules 149 = .ok (.bipush 60, 2) := by decide +kernel
theorem dL_rules_151 : decode cL_rules 151 = .ok (.invokestatic 237, 3) := by decide +kernel
theorem dL_rules_154 : decode cL_rules 154 = .ok (.ifCond .eq 55, 3) := by decide +kernel
theorem dL_rules_157 : decode cL_rules 157 = .ok (.iload 4, 2) := by decide +kernel
theorem dL_rules_159 : decode cL_rules 159 = .ok (.iconst (-1), 1) := by decide +kernel
theorem dL_rules_160 : decode cL_rules 160 = .ok (.if_icmp .eq 45, 3) := by decide +kernel
theorem dL_rules_163 : decode cL_rules 163 = .ok (.aload_n 0, 1) := by decide +kernel
theorem dL_rules_164 : decode cL_rules 164 = .ok (.iconst 4, 1) := by decide +kernel
theorem dL_rules_165 : decode cL_rules 165 = .ok (.iload_n 3, 1) := by decide +kernel
theorem dL_rules_166 : decode cL_rules 166 = .ok (.iconst 0, 1) := by decide +kernel
theorem dL_rules_167 : decode cL_rules 167 = .ok (.iconst 0, 1) := by decide +kernel
theorem dL_rules_168 : decode cL_rules 168 = .ok (.invokestatic 172, 3) := by decide +kernel
theorem dL_rules_171 : decode cL_rules 171 = .ok (.ifCond .le 7, 3) := by decide +kernel
theorem dL_rules_174 : decode cL_rules 174 = .ok (.iconst 1, 1) := by decide +kernel
theorem dL_rules_175 : decode cL_rules 175 = .ok (.goto 4, 3) := by decide +kernel
theorem dL_rules_178 : decode cL_rules 178 = .ok (.iconst 0, 1) := by decide +kernel
theorem dL_rules_179 : decode cL_rules 179 = .ok (.iload 4, 2) := by decide +kernel
theorem dL_rules_181 : decode cL_rules 181 = .ok (.iload 6, 2) := by decide +kernel
theorem dL_rules_183 : decode cL_rules 183 = .ok (.ishr, 1) := by decide +kernel
theorem dL_rules_184 : decode cL_rules 184 = .ok (.iconst 1, 1) := by decide +kernel
theorem dL_rules_185 : decode cL_rules 185 = .ok (.iand, 1) := by decide +kernel
theorem dL_rules_186 : decode cL_rules 186 = .ok (.iconst 1, 1) := by decide +kernel
theorem dL_rules_187 : decode cL_rules 187 = .ok (.if_icmp .ne 7, 3) := by decide +kernel
theorem dL_rules_190 : decode cL_rules 190 = .ok (.iconst 1, 1) := by decide +kernel
theorem dL_rules_191 : decode cL_rules 191 = .ok (.goto 4, 3) := by decide +kernel
theorem dL_rules_194 : decode cL_rules 194 = .ok (.iconst 0, 1) := by decide +kernel
theorem dL_rules_195 : decode cL_rules 195 = .ok (.if_icmp .ne 14, 3) := by decide +kernel
theorem dL_rules_198 : decode cL_rules 198 = .ok (.aload_n 0, 1) := by decide +kernel
theorem dL_rules_199 : decode cL_rules 199 = .ok (.invokevirtual 232, 3) := by decide +kernel
theorem dL_rules_202 : decode cL_rules 202 = .ok (.ifCond .ne 7, 3) := by decide +kernel
theorem dL_rules_205 : decode cL_rules 205 = .ok (.iconst 1, 1) := by decide +kernel
theorem dL_rules_206 : decode cL_rules 206 = .ok (.goto 4, 3) := by decide +kernel
theorem dL_rules_209 : decode cL_rules 209 = .ok (.iconst 0, 1) := by decide +kernel
theorem dL_rules_210 : decode cL_rules 210 = .ok (.istore 7, 2) := by decide +kernel
theorem dL_rules_212 : decode cL_rules 212 = .ok (.iload 7, 2) := by decide +kernel
theorem dL_rules_214 : decode cL_rules 214 = .ok (.ifCond .eq 117, 3) := by decide +kernel
theorem dL_rules_217 : decode cL_rules 217 = .ok (.aload_n 0, 1) := by decide +kernel
theorem dL_rules_218 : decode cL_rules 218 = .ok (.aload_n 1, 1) := by decide +kernel
theorem dL_rules_219 : decode cL_rules 219 = .ok (.bipush 60, 2) := by decide +kernel
theorem dL_rules_221 : decode cL_rules 221 = .ok (.invokestatic 240, 3) := by decide +kernel
theorem dL_rules_224 : decode cL_rules 224 = .ok (.ifCond .eq 107, 3) := by decide +kernel
theorem dL_rules_227 : decode cL_rules 227 = .ok (.aload_n 0, 1) := by decide +kernel
theorem dL_rules_228 : decode cL_rules 228 = .ok (.bipush 14, 2) := by decide +kernel
theorem dL_rules_230 : decode cL_rules 230 = .ok (.iconst 0, 1) := by decide +kernel
theorem dL_rules_231 : decode cL_rules 231 = .ok (.iconst 0, 1) := by decide +kernel
theorem dL_rules_232 : decode cL_rules 232 = .ok (.iconst 0, 1) := by decide +kernel
theorem dL_rules_233 : decode cL_rules 233 = .ok (.invokestatic 172, 3) := by decide +kernel
theorem dL_rules_236 : decode cL_rules 236 = .ok (.invokestatic 228, 3) := by decide +kernel
theorem dL_rules_239 : decode cL_rules 239 = .ok (.ifCond .ne 92, 3) := by decide +kernel
theorem dL_rules_242 : decode cL_rules 242 = .ok (.aload_n 1, 1) := by decide +kernel
theorem dL_rules_243 : decode cL_rules 243 = .ok (.bipush 14, 2) := by decide +kernel
theorem dL_rules_245 : decode cL_rules 245 = .ok (.iconst 0, 1) := by decide +kernel
theorem dL_rules_246 : decode cL_rules 246 = .ok (.iconst 0, 1) := by decide +kernel
theorem dL_rules_247 : decode cL_rules 247 = .ok (.iconst 0, 1) := by decide +kernel
theorem dL_rules_248 : decode cL_rules 248 = .ok (.invokestatic 172, 3) := by decide +kernel
theorem dL_rules_251 : decode cL_rules 251 = .ok (.invokestatic 228, 3) := by decide +kernel
theorem dL_rules_254 : decode cL_rules 254 = .ok (.ifCond .ne 77, 3) := by decide +kernel
theorem dL_rules_257 : decode cL_rules 257 = .ok (.aload_n 0, 1) := by decide +kernel
theorem dL_rules_258 : decode cL_rules 258 = .ok (.bipush 14, 2) := by decide +kernel
theorem dL_rules_260 : decode cL_rules 260 = .ok (.iconst 0, 1) := by decide +kernel
theorem dL_rules_261 : decode cL_rules 261 = .ok (.iconst 0, 1) := by decide +kernel
theorem dL_rules_262 : decode cL_rules 262 = .ok (.iconst 0, 1) := by decide +kernel
theorem dL_rules_263 : decode cL_rules 263 = .ok (.invokestatic 172, 3) := by decide +kernel
theorem dL_rules_266 : decode cL_rules 266 = .ok (.invokestatic 228, 3) := by decide +kernel
theorem dL_rules_269 : decode cL_rules 269 = .ok (.ifCond .ne 62, 3) := by decide +kernel
theorem dL_rules_272 : decode cL_rules 272 = .ok (.aload_n 1, 1) := by decide +kernel
theorem dL_rules_273 : decode cL_rules 273 = .ok (.bipush 14, 2) := by decide +kernel
theorem dL_rules_275 : decode cL_rules 275 = .ok (.iconst 0, 1) := by decide +kernel
theorem dL_rules_276 : decode cL_rules 276 = .ok (.iconst 0, 1) := by decide +kernel
theorem dL_rules_277 : decode cL_rules 277 = .ok (.iconst 0, 1) := by decide +kernel
theorem dL_rules_278 : decode cL_rules 278 = .ok (.invokestatic 172, 3) := by decide +kernel
theorem dL_rules_281 : decode cL_rules 281 = .ok (.invokestatic 228, 3) := by decide +kernel
theorem dL_rules_284 : decode cL_rules 284 = .ok (.ifCond .ne 47, 3) := by decide +kernel
theorem dL_rules_287 : decode cL_rules 287 = .ok (.aload_n 0, 1) := by decide +kernel
theorem dL_rules_288 : decode cL_rules 288 = .ok (.iconst 2, 1) := by decide +kernel
theorem dL_rules_289 : decode cL_rules 289 = .ok (.iconst 2, 1) := by decide +kernel
theorem dL_rules_290 : decode cL_rules 290 = .ok (.iconst 0, 1) := by decide +kernel
theorem dL_rules_291 : decode cL_rules 291 = .ok (.iconst 0, 1) := by decide +kernel
theorem dL_rules_292 : decode cL_rules 292 = .ok (.invokestatic 172, 3) := by decide +kernel
theorem dL_rules_295 : decode cL_rules 295 = .ok (.iload 5, 2) := by decide +kernel
theorem dL_rules_297 : decode cL_rules 297 = .ok (.if_icmp .ne 34, 3) := by decide +kernel
theorem dL_rules_300 : decode cL_rules 300 = .ok (.iload 4, 2) := by decide +kernel
theorem dL_rules_302 : decode cL_rules 302 = .ok (.iconst (-1), 1) := by decide +kernel
theorem dL_rules_303 : decode cL_rules 303 = .ok (.if_icmp .eq 24, 3) := by decide +kernel
theorem dL_rules_306 : decode cL_rules 306 = .ok (.iload_n 3, 1) := by decide +kernel
theorem dL_rules_307 : decode cL_rules 307 = .ok (.iconst 1, 1) := by decide +kernel
theorem dL_rules_308 : decode cL_rules 308 = .ok (.if_icmp .gt 19, 3) := by decide +kernel
theorem dL_rules_311 : decode cL_rules 311 = .ok (.iload 4, 2) := by decide +kernel
theorem dL_rules_313 : decode cL_rules 313 = .ok (.iload_n 3, 1) := by decide +kernel
theorem dL_rules_314 : decode cL_rules 314 = .ok (.ifCond .ne 8, 3) := by decide +kernel
theorem dL_rules_317 : decode cL_rules 317 = .ok (.bipush 10, 2) := by decide +kernel
theorem dL_rules_319 : decode cL_rules 319 = .ok (.goto 5, 3) := by decide +kernel
theorem dL_rules_322 : decode cL_rules 322 = .ok (.bipush 12, 2) := by decide +kernel
theorem dL_rules_324 : decode cL_rules 324 = .ok (.if_icmp .ne 7, 3) := by decide +kernel
theorem dL_rules_327 : decode cL_rules 327 = .ok (.iconst 1, 1) := by decide +kernel
theorem dL_rules_328 : decode cL_rules 328 = .ok (.goto 4, 3) := by decide +kernel
theorem dL_rules_331 : decode cL_rules 331 = .ok (.iconst 0, 1) := by decide +kernel
theorem dL_rules_332 : decode cL_rules 332 = .ok (.ireturn, 1) := by decide +kernel
