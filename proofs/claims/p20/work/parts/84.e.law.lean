theorem dL_law_794 : decode cL_law 794 = .ok (.invokevirtual 93, 3) := by decide +kernel
theorem dL_law_797 : decode cL_law 797 = .ok (.istore 29, 2) := by decide +kernel
theorem dL_law_799 : decode cL_law 799 = .ok (.iload 25, 2) := by decide +kernel
theorem dL_law_801 : decode cL_law 801 = .ok (.aload_n 1, 1) := by decide +kernel
theorem dL_law_802 : decode cL_law 802 = .ok (.iload 28, 2) := by decide +kernel
theorem dL_law_804 : decode cL_law 804 = .ok (.bipush 6, 2) := by decide +kernel
theorem dL_law_806 : decode cL_law 806 = .ok (.invokevirtual 93, 3) := by decide +kernel
theorem dL_law_809 : decode cL_law 809 = .ok (.iadd, 1) := by decide +kernel
theorem dL_law_810 : decode cL_law 810 = .ok (.istore 25, 2) := by decide +kernel
theorem dL_law_812 : decode cL_law 812 = .ok (.iload 26, 2) := by decide +kernel
theorem dL_law_814 : decode cL_law 814 = .ok (.aload_n 1, 1) := by decide +kernel
theorem dL_law_815 : decode cL_law 815 = .ok (.iload 28, 2) := by decide +kernel
theorem dL_law_817 : decode cL_law 817 = .ok (.iconst 4, 1) := by decide +kernel
theorem dL_law_818 : decode cL_law 818 = .ok (.invokevirtual 93, 3) := by decide +kernel
theorem dL_law_821 : decode cL_law 821 = .ok (.iadd, 1) := by decide +kernel
theorem dL_law_822 : decode cL_law 822 = .ok (.istore 26, 2) := by decide +kernel
theorem dL_law_824 : decode cL_law 824 = .ok (.iload 27, 2) := by decide +kernel
theorem dL_law_826 : decode cL_law 826 = .ok (.aload_n 1, 1) := by decide +kernel
theorem dL_law_827 : decode cL_law 827 = .ok (.iload 28, 2) := by decide +kernel
theorem dL_law_829 : decode cL_law 829 = .ok (.bipush 6, 2) := by decide +kernel
theorem dL_law_831 : decode cL_law 831 = .ok (.invokevirtual 93, 3) := by decide +kernel
theorem dL_law_834 : decode cL_law 834 = .ok (.invokestatic 114, 3) := by decide +kernel
theorem dL_law_837 : decode cL_law 837 = .ok (.istore 27, 2) := by decide +kernel
theorem dL_law_839 : decode cL_law 839 = .ok (.iload 29, 2) := by decide +kernel
theorem dL_law_841 : decode cL_law 841 = .ok (.ifCond .lt 87, 3) := by decide +kernel
theorem dL_law_844 : decode cL_law 844 = .ok (.iload 29, 2) := by decide +kernel
theorem dL_law_846 : decode cL_law 846 = .ok (.iconst 0, 1) := by decide +kernel
theorem dL_law_847 : decode cL_law 847 = .ok (.aload_n 1, 1) := by decide +kernel
theorem dL_law_848 : decode cL_law 848 = .ok (.iload 28, 2) := by decide +kernel
theorem dL_law_850 : decode cL_law 850 = .ok (.iconst 2, 1) := by decide +kernel
theorem dL_law_851 : decode cL_law 851 = .ok (.invokevirtual 93, 3) := by decide +kernel
theorem dL_law_854 : decode cL_law 854 = .ok (.aload 13, 2) := by decide +kernel
theorem dL_law_856 : decode cL_law 856 = .ok (.iload 28, 2) := by decide +kernel
theorem dL_law_858 : decode cL_law 858 = .ok (.iaload, 1) := by decide +kernel
theorem dL_law_859 : decode cL_law 859 = .ok (.isub, 1) := by decide +kernel
theorem dL_law_860 : decode cL_law 860 = .ok (.invokestatic 114, 3) := by decide +kernel
theorem dL_law_863 : decode cL_law 863 = .ok (.if_icmp .gt 65, 3) := by decide +kernel
theorem dL_law_866 : decode cL_law 866 = .ok (.aload_n 1, 1) := by decide +kernel
theorem dL_law_867 : decode cL_law 867 = .ok (.iload 28, 2) := by decide +kernel
theorem dL_law_869 : decode cL_law 869 = .ok (.bipush 6, 2) := by decide +kernel
theorem dL_law_871 : decode cL_law 871 = .ok (.invokevirtual 93, 3) := by decide +kernel
theorem dL_law_874 : decode cL_law 874 = .ok (.ifCond .lt 54, 3) := by decide +kernel
theorem dL_law_877 : decode cL_law 877 = .ok (.aload_n 1, 1) := by decide +kernel
theorem dL_law_878 : decode cL_law 878 = .ok (.iload 28, 2) := by decide +kernel
theorem dL_law_880 : decode cL_law 880 = .ok (.bipush 6, 2) := by decide +kernel
theorem dL_law_882 : decode cL_law 882 = .ok (.invokevirtual 93, 3) := by decide +kernel
theorem dL_law_885 : decode cL_law 885 = .ok (.iload 29, 2) := by decide +kernel
theorem dL_law_887 : decode cL_law 887 = .ok (.if_icmp .gt 41, 3) := by decide +kernel
theorem dL_law_890 : decode cL_law 890 = .ok (.aload_n 1, 1) := by decide +kernel
theorem dL_law_891 : decode cL_law 891 = .ok (.iload 28, 2) := by decide +kernel
theorem dL_law_893 : decode cL_law 893 = .ok (.iconst 4, 1) := by decide +kernel
theorem dL_law_894 : decode cL_law 894 = .ok (.invokevirtual 93, 3) := by decide +kernel
theorem dL_law_897 : decode cL_law 897 = .ok (.bipush 20, 2) := by decide +kernel
theorem dL_law_899 : decode cL_law 899 = .ok (.aload 13, 2) := by decide +kernel
theorem dL_law_901 : decode cL_law 901 = .ok (.iload 28, 2) := by decide +kernel
theorem dL_law_903 : decode cL_law 903 = .ok (.iaload, 1) := by decide +kernel
theorem dL_law_904 : decode cL_law 904 = .ok (.iload 12, 2) := by decide +kernel
theorem dL_law_906 : decode cL_law 906 = .ok (.iconst 4, 1) := by decide +kernel
theorem dL_law_907 : decode cL_law 907 = .ok (.irem, 1) := by decide +kernel
theorem dL_law_908 : decode cL_law 908 = .ok (.ifCond .ne 12, 3) := by decide +kernel
theorem dL_law_911 : decode cL_law 911 = .ok (.iload 29, 2) := by decide +kernel
theorem dL_law_913 : decode cL_law 913 = .ok (.ifCond .le 7, 3) := by decide +kernel
theorem dL_law_916 : decode cL_law 916 = .ok (.iconst 1, 1) := by decide +kernel
theorem dL_law_917 : decode cL_law 917 = .ok (.goto 4, 3) := by decide +kernel
theorem dL_law_920 : decode cL_law 920 = .ok (.iconst 0, 1) := by decide +kernel
theorem dL_law_921 : decode cL_law 921 = .ok (.iadd, 1) := by decide +kernel
theorem dL_law_922 : decode cL_law 922 = .ok (.invokestatic 119, 3) := by decide +kernel
theorem dL_law_925 : decode cL_law 925 = .ok (.if_icmp .eq 5, 3) := by decide +kernel
theorem dL_law_928 : decode cL_law 928 = .ok (.iconst 0, 1) := by decide +kernel
theorem dL_law_929 : decode cL_law 929 = .ok (.ireturn, 1) := by decide +kernel
theorem dL_law_930 : decode cL_law 930 = .ok (.bipush 10, 2) := by decide +kernel
theorem dL_law_932 : decode cL_law 932 = .ok (.aload_n 1, 1) := by decide +kernel
theorem dL_law_933 : decode cL_law 933 = .ok (.aload_n 1, 1) := by decide +kernel
theorem dL_law_934 : decode cL_law 934 = .ok (.iload 28, 2) := by decide +kernel
theorem dL_law_936 : decode cL_law 936 = .ok (.iconst 0, 1) := by decide +kernel
theorem dL_law_937 : decode cL_law 937 = .ok (.invokevirtual 93, 3) := by decide +kernel
theorem dL_law_940 : decode cL_law 940 = .ok (.iconst 0, 1) := by decide +kernel
theorem dL_law_941 : decode cL_law 941 = .ok (.invokevirtual 96, 3) := by decide +kernel
theorem dL_law_944 : decode cL_law 944 = .ok (.aload_n 1, 1) := by decide +kernel
theorem dL_law_945 : decode cL_law 945 = .ok (.aload_n 1, 1) := by decide +kernel
theorem dL_law_946 : decode cL_law 946 = .ok (.iload 28, 2) := by decide +kernel
theorem dL_law_948 : decode cL_law 948 = .ok (.iconst 1, 1) := by decide +kernel
theorem dL_law_949 : decode cL_law 949 = .ok (.invokevirtual 93, 3) := by decide +kernel
theorem dL_law_952 : decode cL_law 952 = .ok (.iconst 0, 1) := by decide +kernel
theorem dL_law_953 : decode cL_law 953 = .ok (.invokevirtual 96, 3) := by decide +kernel
theorem dL_law_956 : decode cL_law 956 = .ok (.isub, 1) := by decide +kernel
theorem dL_law_957 : decode cL_law 957 = .ok (.imul, 1) := by decide +kernel
theorem dL_law_958 : decode cL_law 958 = .ok (.aload_n 1, 1) := by decide +kernel
theorem dL_law_959 : decode cL_law 959 = .ok (.aload_n 1, 1) := by decide +kernel
theorem dL_law_960 : decode cL_law 960 = .ok (.iload 28, 2) := by decide +kernel
theorem dL_law_962 : decode cL_law 962 = .ok (.iconst 0, 1) := by decide +kernel
theorem dL_law_963 : decode cL_law 963 = .ok (.invokevirtual 93, 3) := by decide +kernel
theorem dL_law_966 : decode cL_law 966 = .ok (.iconst 3, 1) := by decide +kernel
theorem dL_law_967 : decode cL_law 967 = .ok (.invokevirtual 96, 3) := by decide +kernel
theorem dL_law_970 : decode cL_law 970 = .ok (.iadd, 1) := by decide +kernel
theorem dL_law_971 : decode cL_law 971 = .ok (.aload_n 1, 1) := by decide +kernel
theorem dL_law_972 : decode cL_law 972 = .ok (.aload_n 1, 1) := by decide +kernel
theorem dL_law_973 : decode cL_law 973 = .ok (.iload 28, 2) := by decide +kernel
theorem dL_law_975 : decode cL_law 975 = .ok (.iconst 1, 1) := by decide +kernel
theorem dL_law_976 : decode cL_law 976 = .ok (.invokevirtual 93, 3) := by decide +kernel
theorem dL_law_979 : decode cL_law 979 = .ok (.iconst 3, 1) := by decide +kernel
theorem dL_law_980 : decode cL_law 980 = .ok (.invokevirtual 96, 3) := by decide +kernel
theorem dL_law_983 : decode cL_law 983 = .ok (.isub, 1) := by decide +kernel
theorem dL_law_984 : decode cL_law 984 = .ok (.istore 30, 2) := by decide +kernel
theorem dL_law_986 : decode cL_law 986 = .ok (.aload_n 1, 1) := by decide +kernel
theorem dL_law_987 : decode cL_law 987 = .ok (.iload 28, 2) := by decide +kernel
theorem dL_law_989 : decode cL_law 989 = .ok (.bipush 8, 2) := by decide +kernel
theorem dL_law_991 : decode cL_law 991 = .ok (.invokevirtual 93, 3) := by decide +kernel
theorem dL_law_994 : decode cL_law 994 = .ok (.istore 31, 2) := by decide +kernel
theorem dL_law_996 : decode cL_law 996 = .ok (.iload 30, 2) := by decide +kernel
