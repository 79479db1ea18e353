theorem kL_law_759 : decode mL_law.2.1 759 = .ok (.iload 5, 2) := by decide +kernel
theorem kL_law_761 : decode mL_law.2.1 761 = .ok (.if_icmp .eq 5, 3) := by decide +kernel
theorem kL_law_764 : decode mL_law.2.1 764 = .ok (.iconst 0, 1) := by decide +kernel
theorem kL_law_765 : decode mL_law.2.1 765 = .ok (.ireturn, 1) := by decide +kernel
theorem kL_law_766 : decode mL_law.2.1 766 = .ok (.iload 5, 2) := by decide +kernel
theorem kL_law_768 : decode mL_law.2.1 768 = .ok (.ifCond .ne 15, 3) := by decide +kernel
theorem kL_law_771 : decode mL_law.2.1 771 = .ok (.aload_n 3, 1) := by decide +kernel
theorem kL_law_772 : decode mL_law.2.1 772 = .ok (.iconst 0, 1) := by decide +kernel
theorem kL_law_773 : decode mL_law.2.1 773 = .ok (.laload, 1) := by decide +kernel
theorem kL_law_774 : decode mL_law.2.1 774 = .ok (.iload 6, 2) := by decide +kernel
theorem kL_law_776 : decode mL_law.2.1 776 = .ok (.i2l, 1) := by decide +kernel
theorem kL_law_777 : decode mL_law.2.1 777 = .ok (.lcmp, 1) := by decide +kernel
theorem kL_law_778 : decode mL_law.2.1 778 = .ok (.ifCond .eq 5, 3) := by decide +kernel
theorem kL_law_781 : decode mL_law.2.1 781 = .ok (.iconst 0, 1) := by decide +kernel
theorem kL_law_782 : decode mL_law.2.1 782 = .ok (.ireturn, 1) := by decide +kernel
theorem kL_law_783 : decode mL_law.2.1 783 = .ok (.goto 194, 3) := by decide +kernel
theorem kL_law_786 : decode mL_law.2.1 786 = .ok (.aload_n 1, 1) := by decide +kernel
theorem kL_law_787 : decode mL_law.2.1 787 = .ok (.aload_n 0, 1) := by decide +kernel
theorem kL_law_788 : decode mL_law.2.1 788 = .ok (.iload 4, 2) := by decide +kernel
theorem kL_law_790 : decode mL_law.2.1 790 = .ok (.iconst 1, 1) := by decide +kernel
theorem kL_law_791 : decode mL_law.2.1 791 = .ok (.iadd, 1) := by decide +kernel
theorem kL_law_792 : decode mL_law.2.1 792 = .ok (.iaload, 1) := by decide +kernel
theorem kL_law_793 : decode mL_law.2.1 793 = .ok (.aload_n 3, 1) := by decide +kernel
theorem kL_law_794 : decode mL_law.2.1 794 = .ok (.invokestatic 128, 3) := by decide +kernel
theorem kL_law_797 : decode mL_law.2.1 797 = .ok (.istore 5, 2) := by decide +kernel
theorem kL_law_799 : decode mL_law.2.1 799 = .ok (.aload_n 2, 1) := by decide +kernel
theorem kL_law_800 : decode mL_law.2.1 800 = .ok (.aload_n 0, 1) := by decide +kernel
theorem kL_law_801 : decode mL_law.2.1 801 = .ok (.iload 4, 2) := by decide +kernel
theorem kL_law_803 : decode mL_law.2.1 803 = .ok (.iconst 1, 1) := by decide +kernel
theorem kL_law_804 : decode mL_law.2.1 804 = .ok (.iadd, 1) := by decide +kernel
theorem kL_law_805 : decode mL_law.2.1 805 = .ok (.iaload, 1) := by decide +kernel
theorem kL_law_806 : decode mL_law.2.1 806 = .ok (.invokevirtual 130, 3) := by decide +kernel
theorem kL_law_809 : decode mL_law.2.1 809 = .ok (.istore 6, 2) := by decide +kernel
theorem kL_law_811 : decode mL_law.2.1 811 = .ok (.aload_n 2, 1) := by decide +kernel
theorem kL_law_812 : decode mL_law.2.1 812 = .ok (.invokevirtual 76, 3) := by decide +kernel
theorem kL_law_815 : decode mL_law.2.1 815 = .ok (.iload 5, 2) := by decide +kernel
theorem kL_law_817 : decode mL_law.2.1 817 = .ok (.if_icmp .eq 5, 3) := by decide +kernel
theorem kL_law_820 : decode mL_law.2.1 820 = .ok (.iconst 0, 1) := by decide +kernel
theorem kL_law_821 : decode mL_law.2.1 821 = .ok (.ireturn, 1) := by decide +kernel
theorem kL_law_822 : decode mL_law.2.1 822 = .ok (.iload 5, 2) := by decide +kernel
theorem kL_law_824 : decode mL_law.2.1 824 = .ok (.ifCond .ne 15, 3) := by decide +kernel
theorem kL_law_827 : decode mL_law.2.1 827 = .ok (.aload_n 3, 1) := by decide +kernel
theorem kL_law_828 : decode mL_law.2.1 828 = .ok (.iconst 0, 1) := by decide +kernel
theorem kL_law_829 : decode mL_law.2.1 829 = .ok (.laload, 1) := by decide +kernel
theorem kL_law_830 : decode mL_law.2.1 830 = .ok (.iload 6, 2) := by decide +kernel
theorem kL_law_832 : decode mL_law.2.1 832 = .ok (.i2l, 1) := by decide +kernel
theorem kL_law_833 : decode mL_law.2.1 833 = .ok (.lcmp, 1) := by decide +kernel
theorem kL_law_834 : decode mL_law.2.1 834 = .ok (.ifCond .eq 5, 3) := by decide +kernel
theorem kL_law_837 : decode mL_law.2.1 837 = .ok (.iconst 0, 1) := by decide +kernel
theorem kL_law_838 : decode mL_law.2.1 838 = .ok (.ireturn, 1) := by decide +kernel
theorem kL_law_839 : decode mL_law.2.1 839 = .ok (.goto 138, 3) := by decide +kernel
theorem kL_law_842 : decode mL_law.2.1 842 = .ok (.aload_n 1, 1) := by decide +kernel
theorem kL_law_843 : decode mL_law.2.1 843 = .ok (.aload_n 0, 1) := by decide +kernel
theorem kL_law_844 : decode mL_law.2.1 844 = .ok (.iload 4, 2) := by decide +kernel
theorem kL_law_846 : decode mL_law.2.1 846 = .ok (.iconst 1, 1) := by decide +kernel
theorem kL_law_847 : decode mL_law.2.1 847 = .ok (.iadd, 1) := by decide +kernel
theorem kL_law_848 : decode mL_law.2.1 848 = .ok (.iaload, 1) := by decide +kernel
theorem kL_law_849 : decode mL_law.2.1 849 = .ok (.aload_n 0, 1) := by decide +kernel
theorem kL_law_850 : decode mL_law.2.1 850 = .ok (.iload 4, 2) := by decide +kernel
theorem kL_law_852 : decode mL_law.2.1 852 = .ok (.iconst 2, 1) := by decide +kernel
theorem kL_law_853 : decode mL_law.2.1 853 = .ok (.iadd, 1) := by decide +kernel
theorem kL_law_854 : decode mL_law.2.1 854 = .ok (.iaload, 1) := by decide +kernel
theorem kL_law_855 : decode mL_law.2.1 855 = .ok (.aload_n 3, 1) := by decide +kernel
theorem kL_law_856 : decode mL_law.2.1 856 = .ok (.invokestatic 131, 3) := by decide +kernel
theorem kL_law_859 : decode mL_law.2.1 859 = .ok (.istore 5, 2) := by decide +kernel
theorem kL_law_861 : decode mL_law.2.1 861 = .ok (.aload_n 2, 1) := by decide +kernel
theorem kL_law_862 : decode mL_law.2.1 862 = .ok (.aload_n 0, 1) := by decide +kernel
theorem kL_law_863 : decode mL_law.2.1 863 = .ok (.iload 4, 2) := by decide +kernel
theorem kL_law_865 : decode mL_law.2.1 865 = .ok (.iconst 1, 1) := by decide +kernel
theorem kL_law_866 : decode mL_law.2.1 866 = .ok (.iadd, 1) := by decide +kernel
theorem kL_law_867 : decode mL_law.2.1 867 = .ok (.iaload, 1) := by decide +kernel
theorem kL_law_868 : decode mL_law.2.1 868 = .ok (.aload_n 0, 1) := by decide +kernel
theorem kL_law_869 : decode mL_law.2.1 869 = .ok (.iload 4, 2) := by decide +kernel
theorem kL_law_871 : decode mL_law.2.1 871 = .ok (.iconst 2, 1) := by decide +kernel
theorem kL_law_872 : decode mL_law.2.1 872 = .ok (.iadd, 1) := by decide +kernel
theorem kL_law_873 : decode mL_law.2.1 873 = .ok (.iaload, 1) := by decide +kernel
theorem kL_law_874 : decode mL_law.2.1 874 = .ok (.invokevirtual 133, 3) := by decide +kernel
theorem kL_law_877 : decode mL_law.2.1 877 = .ok (.istore 6, 2) := by decide +kernel
theorem kL_law_879 : decode mL_law.2.1 879 = .ok (.aload_n 2, 1) := by decide +kernel
theorem kL_law_880 : decode mL_law.2.1 880 = .ok (.invokevirtual 76, 3) := by decide +kernel
theorem kL_law_883 : decode mL_law.2.1 883 = .ok (.iload 5, 2) := by decide +kernel
theorem kL_law_885 : decode mL_law.2.1 885 = .ok (.if_icmp .eq 5, 3) := by decide +kernel
theorem kL_law_888 : decode mL_law.2.1 888 = .ok (.iconst 0, 1) := by decide +kernel
theorem kL_law_889 : decode mL_law.2.1 889 = .ok (.ireturn, 1) := by decide +kernel
theorem kL_law_890 : decode mL_law.2.1 890 = .ok (.iload 5, 2) := by decide +kernel
theorem kL_law_892 : decode mL_law.2.1 892 = .ok (.ifCond .ne 15, 3) := by decide +kernel
theorem kL_law_895 : decode mL_law.2.1 895 = .ok (.aload_n 3, 1) := by decide +kernel
theorem kL_law_896 : decode mL_law.2.1 896 = .ok (.iconst 0, 1) := by decide +kernel
theorem kL_law_897 : decode mL_law.2.1 897 = .ok (.laload, 1) := by decide +kernel
theorem kL_law_898 : decode mL_law.2.1 898 = .ok (.iload 6, 2) := by decide +kernel
theorem kL_law_900 : decode mL_law.2.1 900 = .ok (.i2l, 1) := by decide +kernel
theorem kL_law_901 : decode mL_law.2.1 901 = .ok (.lcmp, 1) := by decide +kernel
theorem kL_law_902 : decode mL_law.2.1 902 = .ok (.ifCond .eq 5, 3) := by decide +kernel
theorem kL_law_905 : decode mL_law.2.1 905 = .ok (.iconst 0, 1) := by decide +kernel
theorem kL_law_906 : decode mL_law.2.1 906 = .ok (.ireturn, 1) := by decide +kernel
theorem kL_law_907 : decode mL_law.2.1 907 = .ok (.goto 70, 3) := by decide +kernel
theorem kL_law_910 : decode mL_law.2.1 910 = .ok (.aload_n 1, 1) := by decide +kernel
theorem kL_law_911 : decode mL_law.2.1 911 = .ok (.aload_n 0, 1) := by decide +kernel
theorem kL_law_912 : decode mL_law.2.1 912 = .ok (.iload 4, 2) := by decide +kernel
theorem kL_law_914 : decode mL_law.2.1 914 = .ok (.iconst 1, 1) := by decide +kernel
theorem kL_law_915 : decode mL_law.2.1 915 = .ok (.iadd, 1) := by decide +kernel
theorem kL_law_916 : decode mL_law.2.1 916 = .ok (.iaload, 1) := by decide +kernel
theorem kL_law_917 : decode mL_law.2.1 917 = .ok (.aload_n 0, 1) := by decide +kernel
theorem kL_law_918 : decode mL_law.2.1 918 = .ok (.iload 4, 2) := by decide +kernel
theorem kL_law_920 : decode mL_law.2.1 920 = .ok (.iconst 2, 1) := by decide +kernel
theorem kL_law_921 : decode mL_law.2.1 921 = .ok (.iadd, 1) := by decide +kernel
theorem kL_law_922 : decode mL_law.2.1 922 = .ok (.iaload, 1) := by decide +kernel
theorem kL_law_923 : decode mL_law.2.1 923 = .ok (.aload_n 3, 1) := by decide +kernel
theorem kL_law_924 : decode mL_law.2.1 924 = .ok (.invokestatic 134, 3) := by decide +kernel
theorem kL_law_927 : decode mL_law.2.1 927 = .ok (.istore 5, 2) := by decide +kernel
theorem kL_law_929 : decode mL_law.2.1 929 = .ok (.aload_n 2, 1) := by decide +kernel
theorem kL_law_930 : decode mL_law.2.1 930 = .ok (.aload_n 0, 1) := by decide +kernel
theorem kL_law_931 : decode mL_law.2.1 931 = .ok (.iload 4, 2) := by decide +kernel
theorem kL_law_933 : decode mL_law.2.1 933 = .ok (.iconst 1, 1) := by decide +kernel
theorem kL_law_934 : decode mL_law.2.1 934 = .ok (.iadd, 1) := by decide +kernel
theorem kL_law_935 : decode mL_law.2.1 935 = .ok (.iaload, 1) := by decide +kernel
theorem kL_law_936 : decode mL_law.2.1 936 = .ok (.aload_n 0, 1) := by decide +kernel
theorem kL_law_937 : decode mL_law.2.1 937 = .ok (.iload 4, 2) := by decide +kernel
theorem kL_law_939 : decode mL_law.2.1 939 = .ok (.iconst 2, 1) := by decide +kernel
theorem kL_law_940 : decode mL_law.2.1 940 = .ok (.iadd, 1) := by decide +kernel
theorem kL_law_941 : decode mL_law.2.1 941 = .ok (.iaload, 1) := by decide +kernel
theorem kL_law_942 : decode mL_law.2.1 942 = .ok (.invokevirtual 136, 3) := by decide +kernel
theorem kL_law_945 : decode mL_law.2.1 945 = .ok (.lstore 6, 2) := by decide +kernel
theorem kL_law_947 : decode mL_law.2.1 947 = .ok (.aload_n 2, 1) := by decide +kernel
theorem kL_law_948 : decode mL_law.2.1 948 = .ok (.invokevirtual 76, 3) := by decide +kernel
theorem kL_law_951 : decode mL_law.2.1 951 = .ok (.iload 5, 2) := by decide +kernel
theorem kL_law_953 : decode mL_law.2.1 953 = .ok (.if_icmp .eq 5, 3) := by decide +kernel
theorem kL_law_956 : decode mL_law.2.1 956 = .ok (.iconst 0, 1) := by decide +kernel
theorem kL_law_957 : decode mL_law.2.1 957 = .ok (.ireturn, 1) := by decide +kernel
theorem kL_law_958 : decode mL_law.2.1 958 = .ok (.iload 5, 2) := by decide +kernel
theorem kL_law_960 : decode mL_law.2.1 960 = .ok (.ifCond .ne 14, 3) := by decide +kernel
theorem kL_law_963 : decode mL_law.2.1 963 = .ok (.aload_n 3, 1) := by decide +kernel
theorem kL_law_964 : decode mL_law.2.1 964 = .ok (.iconst 0, 1) := by decide +kernel
theorem kL_law_965 : decode mL_law.2.1 965 = .ok (.laload, 1) := by decide +kernel
theorem kL_law_966 : decode mL_law.2.1 966 = .ok (.lload 6, 2) := by decide +kernel
theorem kL_law_968 : decode mL_law.2.1 968 = .ok (.lcmp, 1) := by decide +kernel
theorem kL_law_969 : decode mL_law.2.1 969 = .ok (.ifCond .eq 5, 3) := by decide +kernel
theorem kL_law_972 : decode mL_law.2.1 972 = .ok (.iconst 0, 1) := by decide +kernel
theorem kL_law_973 : decode mL_law.2.1 973 = .ok (.ireturn, 1) := by decide +kernel
theorem kL_law_974 : decode mL_law.2.1 974 = .ok (.goto 3, 3) := by decide +kernel
theorem kL_law_977 : decode mL_law.2.1 977 = .ok (.iinc 4 5, 3) := by decide +kernel
theorem kL_law_980 : decode mL_law.2.1 980 = .ok (.goto (-957), 3) := by decide +kernel
theorem kL_law_983 : decode mL_law.2.1 983 = .ok (.iconst 1, 1) := by decide +kernel
theorem kL_law_984 : decode mL_law.2.1 984 = .ok (.ireturn, 1) := by decide +kernel
