theorem d_law_832 : decode code 832 = .ok (.iconst 0, 1) := by decide +kernel
theorem d_law_833 : decode code 833 = .ok (.ireturn, 1) := by decide +kernel
theorem d_law_834 : decode code 834 = .ok (.goto 435, 3) := by decide +kernel
theorem d_law_837 : decode code 837 = .ok (.aload_n 1, 1) := by decide +kernel
theorem d_law_838 : decode code 838 = .ok (.aload_n 0, 1) := by decide +kernel
theorem d_law_839 : decode code 839 = .ok (.iload 4, 2) := by decide +kernel
theorem d_law_841 : decode code 841 = .ok (.iconst 1, 1) := by decide +kernel
theorem d_law_842 : decode code 842 = .ok (.iadd, 1) := by decide +kernel
theorem d_law_843 : decode code 843 = .ok (.iaload, 1) := by decide +kernel
theorem d_law_844 : decode code 844 = .ok (.aload_n 0, 1) := by decide +kernel
theorem d_law_845 : decode code 845 = .ok (.iload 4, 2) := by decide +kernel
theorem d_law_847 : decode code 847 = .ok (.iconst 2, 1) := by decide +kernel
theorem d_law_848 : decode code 848 = .ok (.iadd, 1) := by decide +kernel
theorem d_law_849 : decode code 849 = .ok (.iaload, 1) := by decide +kernel
theorem d_law_850 : decode code 850 = .ok (.aload_n 0, 1) := by decide +kernel
theorem d_law_851 : decode code 851 = .ok (.iload 4, 2) := by decide +kernel
theorem d_law_853 : decode code 853 = .ok (.iconst 3, 1) := by decide +kernel
theorem d_law_854 : decode code 854 = .ok (.iadd, 1) := by decide +kernel
theorem d_law_855 : decode code 855 = .ok (.iaload, 1) := by decide +kernel
theorem d_law_856 : decode code 856 = .ok (.aload_n 0, 1) := by decide +kernel
theorem d_law_857 : decode code 857 = .ok (.iload 4, 2) := by decide +kernel
theorem d_law_859 : decode code 859 = .ok (.iconst 4, 1) := by decide +kernel
theorem d_law_860 : decode code 860 = .ok (.iadd, 1) := by decide +kernel
theorem d_law_861 : decode code 861 = .ok (.iaload, 1) := by decide +kernel
theorem d_law_862 : decode code 862 = .ok (.aload_n 3, 1) := by decide +kernel
theorem d_law_863 : decode code 863 = .ok (.invokestatic 114, 3) := by decide +kernel
theorem d_law_866 : decode code 866 = .ok (.istore 5, 2) := by decide +kernel
theorem d_law_868 : decode code 868 = .ok (.aload_n 2, 1) := by decide +kernel
theorem d_law_869 : decode code 869 = .ok (.aload_n 0, 1) := by decide +kernel
theorem d_law_870 : decode code 870 = .ok (.iload 4, 2) := by decide +kernel
theorem d_law_872 : decode code 872 = .ok (.iconst 1, 1) := by decide +kernel
theorem d_law_873 : decode code 873 = .ok (.iadd, 1) := by decide +kernel
theorem d_law_874 : decode code 874 = .ok (.iaload, 1) := by decide +kernel
theorem d_law_875 : decode code 875 = .ok (.aload_n 0, 1) := by decide +kernel
theorem d_law_876 : decode code 876 = .ok (.iload 4, 2) := by decide +kernel
theorem d_law_878 : decode code 878 = .ok (.iconst 2, 1) := by decide +kernel
theorem d_law_879 : decode code 879 = .ok (.iadd, 1) := by decide +kernel
theorem d_law_880 : decode code 880 = .ok (.iaload, 1) := by decide +kernel
theorem d_law_881 : decode code 881 = .ok (.aload_n 0, 1) := by decide +kernel
theorem d_law_882 : decode code 882 = .ok (.iload 4, 2) := by decide +kernel
theorem d_law_884 : decode code 884 = .ok (.iconst 3, 1) := by decide +kernel
theorem d_law_885 : decode code 885 = .ok (.iadd, 1) := by decide +kernel
theorem d_law_886 : decode code 886 = .ok (.iaload, 1) := by decide +kernel
theorem d_law_887 : decode code 887 = .ok (.aload_n 0, 1) := by decide +kernel
theorem d_law_888 : decode code 888 = .ok (.iload 4, 2) := by decide +kernel
theorem d_law_890 : decode code 890 = .ok (.iconst 4, 1) := by decide +kernel
theorem d_law_891 : decode code 891 = .ok (.iadd, 1) := by decide +kernel
theorem d_law_892 : decode code 892 = .ok (.iaload, 1) := by decide +kernel
theorem d_law_893 : decode code 893 = .ok (.invokevirtual 116, 3) := by decide +kernel
theorem d_law_896 : decode code 896 = .ok (.istore 6, 2) := by decide +kernel
theorem d_law_898 : decode code 898 = .ok (.aload_n 2, 1) := by decide +kernel
theorem d_law_899 : decode code 899 = .ok (.invokevirtual 83, 3) := by decide +kernel
theorem d_law_902 : decode code 902 = .ok (.iload 5, 2) := by decide +kernel
theorem d_law_904 : decode code 904 = .ok (.if_icmp .eq 5, 3) := by decide +kernel
theorem d_law_907 : decode code 907 = .ok (.iconst 0, 1) := by decide +kernel
theorem d_law_908 : decode code 908 = .ok (.ireturn, 1) := by decide +kernel
theorem d_law_909 : decode code 909 = .ok (.iload 5, 2) := by decide +kernel
theorem d_law_911 : decode code 911 = .ok (.ifCond .ne 15, 3) := by decide +kernel
theorem d_law_914 : decode code 914 = .ok (.aload_n 3, 1) := by decide +kernel
theorem d_law_915 : decode code 915 = .ok (.iconst 0, 1) := by decide +kernel
theorem d_law_916 : decode code 916 = .ok (.laload, 1) := by decide +kernel
theorem d_law_917 : decode code 917 = .ok (.iload 6, 2) := by decide +kernel
theorem d_law_919 : decode code 919 = .ok (.i2l, 1) := by decide +kernel
theorem d_law_920 : decode code 920 = .ok (.lcmp, 1) := by decide +kernel
theorem d_law_921 : decode code 921 = .ok (.ifCond .eq 5, 3) := by decide +kernel
theorem d_law_924 : decode code 924 = .ok (.iconst 0, 1) := by decide +kernel
theorem d_law_925 : decode code 925 = .ok (.ireturn, 1) := by decide +kernel
theorem d_law_926 : decode code 926 = .ok (.goto 343, 3) := by decide +kernel
theorem d_law_929 : decode code 929 = .ok (.aload_n 1, 1) := by decide +kernel
theorem d_law_930 : decode code 930 = .ok (.aload_n 0, 1) := by decide +kernel
theorem d_law_931 : decode code 931 = .ok (.iload 4, 2) := by decide +kernel
theorem d_law_933 : decode code 933 = .ok (.iconst 1, 1) := by decide +kernel
theorem d_law_934 : decode code 934 = .ok (.iadd, 1) := by decide +kernel
theorem d_law_935 : decode code 935 = .ok (.iaload, 1) := by decide +kernel
theorem d_law_936 : decode code 936 = .ok (.aload_n 0, 1) := by decide +kernel
theorem d_law_937 : decode code 937 = .ok (.iload 4, 2) := by decide +kernel
theorem d_law_939 : decode code 939 = .ok (.iconst 2, 1) := by decide +kernel
theorem d_law_940 : decode code 940 = .ok (.iadd, 1) := by decide +kernel
theorem d_law_941 : decode code 941 = .ok (.iaload, 1) := by decide +kernel
theorem d_law_942 : decode code 942 = .ok (.aload_n 3, 1) := by decide +kernel
theorem d_law_943 : decode code 943 = .ok (.invokestatic 117, 3) := by decide +kernel
theorem d_law_946 : decode code 946 = .ok (.istore 5, 2) := by decide +kernel
theorem d_law_948 : decode code 948 = .ok (.aload_n 2, 1) := by decide +kernel
theorem d_law_949 : decode code 949 = .ok (.aload_n 0, 1) := by decide +kernel
theorem d_law_950 : decode code 950 = .ok (.iload 4, 2) := by decide +kernel
theorem d_law_952 : decode code 952 = .ok (.iconst 1, 1) := by decide +kernel
theorem d_law_953 : decode code 953 = .ok (.iadd, 1) := by decide +kernel
theorem d_law_954 : decode code 954 = .ok (.iaload, 1) := by decide +kernel
theorem d_law_955 : decode code 955 = .ok (.aload_n 0, 1) := by decide +kernel
theorem d_law_956 : decode code 956 = .ok (.iload 4, 2) := by decide +kernel
theorem d_law_958 : decode code 958 = .ok (.iconst 2, 1) := by decide +kernel
theorem d_law_959 : decode code 959 = .ok (.iadd, 1) := by decide +kernel
theorem d_law_960 : decode code 960 = .ok (.iaload, 1) := by decide +kernel
theorem d_law_961 : decode code 961 = .ok (.invokevirtual 119, 3) := by decide +kernel
theorem d_law_964 : decode code 964 = .ok (.istore 6, 2) := by decide +kernel
theorem d_law_966 : decode code 966 = .ok (.aload_n 2, 1) := by decide +kernel
theorem d_law_967 : decode code 967 = .ok (.invokevirtual 83, 3) := by decide +kernel
theorem d_law_970 : decode code 970 = .ok (.iload 5, 2) := by decide +kernel
theorem d_law_972 : decode code 972 = .ok (.if_icmp .eq 5, 3) := by decide +kernel
theorem d_law_975 : decode code 975 = .ok (.iconst 0, 1) := by decide +kernel
