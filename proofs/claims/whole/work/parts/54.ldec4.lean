theorem dW_law_801 : decode code 801 = .ok (.iconst 1, 1) := by decide +kernel
theorem dW_law_802 : decode code 802 = .ok (.iadd, 1) := by decide +kernel
theorem dW_law_803 : decode code 803 = .ok (.iaload, 1) := by decide +kernel
theorem dW_law_804 : decode code 804 = .ok (.aload_n 0, 1) := by decide +kernel
theorem dW_law_805 : decode code 805 = .ok (.iload 4, 2) := by decide +kernel
theorem dW_law_807 : decode code 807 = .ok (.iconst 2, 1) := by decide +kernel
theorem dW_law_808 : decode code 808 = .ok (.iadd, 1) := by decide +kernel
theorem dW_law_809 : decode code 809 = .ok (.iaload, 1) := by decide +kernel
theorem dW_law_810 : decode code 810 = .ok (.aload_n 3, 1) := by decide +kernel
theorem dW_law_811 : decode code 811 = .ok (.invokestatic 108, 3) := by decide +kernel
theorem dW_law_814 : decode code 814 = .ok (.istore 5, 2) := by decide +kernel
theorem dW_law_816 : decode code 816 = .ok (.aload_n 2, 1) := by decide +kernel
theorem dW_law_817 : decode code 817 = .ok (.aload_n 0, 1) := by decide +kernel
theorem dW_law_818 : decode code 818 = .ok (.iload 4, 2) := by decide +kernel
theorem dW_law_820 : decode code 820 = .ok (.iconst 1, 1) := by decide +kernel
theorem dW_law_821 : decode code 821 = .ok (.iadd, 1) := by decide +kernel
theorem dW_law_822 : decode code 822 = .ok (.iaload, 1) := by decide +kernel
theorem dW_law_823 : decode code 823 = .ok (.aload_n 0, 1) := by decide +kernel
theorem dW_law_824 : decode code 824 = .ok (.iload 4, 2) := by decide +kernel
theorem dW_law_826 : decode code 826 = .ok (.iconst 2, 1) := by decide +kernel
theorem dW_law_827 : decode code 827 = .ok (.iadd, 1) := by decide +kernel
theorem dW_law_828 : decode code 828 = .ok (.iaload, 1) := by decide +kernel
theorem dW_law_829 : decode code 829 = .ok (.invokevirtual 110, 3) := by decide +kernel
theorem dW_law_832 : decode code 832 = .ok (.istore 6, 2) := by decide +kernel
theorem dW_law_834 : decode code 834 = .ok (.aload_n 2, 1) := by decide +kernel
theorem dW_law_835 : decode code 835 = .ok (.invokevirtual 69, 3) := by decide +kernel
theorem dW_law_838 : decode code 838 = .ok (.iload 5, 2) := by decide +kernel
theorem dW_law_840 : decode code 840 = .ok (.if_icmp .eq 5, 3) := by decide +kernel
theorem dW_law_843 : decode code 843 = .ok (.iconst 0, 1) := by decide +kernel
theorem dW_law_844 : decode code 844 = .ok (.ireturn, 1) := by decide +kernel
theorem dW_law_845 : decode code 845 = .ok (.iload 5, 2) := by decide +kernel
theorem dW_law_847 : decode code 847 = .ok (.ifCond .ne 15, 3) := by decide +kernel
theorem dW_law_850 : decode code 850 = .ok (.aload_n 3, 1) := by decide +kernel
theorem dW_law_851 : decode code 851 = .ok (.iconst 0, 1) := by decide +kernel
theorem dW_law_852 : decode code 852 = .ok (.laload, 1) := by decide +kernel
theorem dW_law_853 : decode code 853 = .ok (.iload 6, 2) := by decide +kernel
theorem dW_law_855 : decode code 855 = .ok (.i2l, 1) := by decide +kernel
theorem dW_law_856 : decode code 856 = .ok (.lcmp, 1) := by decide +kernel
theorem dW_law_857 : decode code 857 = .ok (.ifCond .eq 5, 3) := by decide +kernel
theorem dW_law_860 : decode code 860 = .ok (.iconst 0, 1) := by decide +kernel
theorem dW_law_861 : decode code 861 = .ok (.ireturn, 1) := by decide +kernel
theorem dW_law_862 : decode code 862 = .ok (.goto 96, 3) := by decide +kernel
theorem dW_law_865 : decode code 865 = .ok (.aload_n 1, 1) := by decide +kernel
theorem dW_law_866 : decode code 866 = .ok (.aload_n 0, 1) := by decide +kernel
theorem dW_law_867 : decode code 867 = .ok (.iload 4, 2) := by decide +kernel
theorem dW_law_869 : decode code 869 = .ok (.iconst 1, 1) := by decide +kernel
theorem dW_law_870 : decode code 870 = .ok (.iadd, 1) := by decide +kernel
theorem dW_law_871 : decode code 871 = .ok (.iaload, 1) := by decide +kernel
theorem dW_law_872 : decode code 872 = .ok (.aload_n 0, 1) := by decide +kernel
theorem dW_law_873 : decode code 873 = .ok (.iload 4, 2) := by decide +kernel
theorem dW_law_875 : decode code 875 = .ok (.iconst 2, 1) := by decide +kernel
theorem dW_law_876 : decode code 876 = .ok (.iadd, 1) := by decide +kernel
theorem dW_law_877 : decode code 877 = .ok (.iaload, 1) := by decide +kernel
theorem dW_law_878 : decode code 878 = .ok (.aload_n 3, 1) := by decide +kernel
theorem dW_law_879 : decode code 879 = .ok (.invokestatic 111, 3) := by decide +kernel
theorem dW_law_882 : decode code 882 = .ok (.istore 5, 2) := by decide +kernel
theorem dW_law_884 : decode code 884 = .ok (.aload_n 2, 1) := by decide +kernel
theorem dW_law_885 : decode code 885 = .ok (.aload_n 0, 1) := by decide +kernel
theorem dW_law_886 : decode code 886 = .ok (.iload 4, 2) := by decide +kernel
theorem dW_law_888 : decode code 888 = .ok (.iconst 1, 1) := by decide +kernel
theorem dW_law_889 : decode code 889 = .ok (.iadd, 1) := by decide +kernel
theorem dW_law_890 : decode code 890 = .ok (.iaload, 1) := by decide +kernel
theorem dW_law_891 : decode code 891 = .ok (.aload_n 0, 1) := by decide +kernel
theorem dW_law_892 : decode code 892 = .ok (.iload 4, 2) := by decide +kernel
theorem dW_law_894 : decode code 894 = .ok (.iconst 2, 1) := by decide +kernel
theorem dW_law_895 : decode code 895 = .ok (.iadd, 1) := by decide +kernel
theorem dW_law_896 : decode code 896 = .ok (.iaload, 1) := by decide +kernel
theorem dW_law_897 : decode code 897 = .ok (.invokevirtual 113, 3) := by decide +kernel
theorem dW_law_900 : decode code 900 = .ok (.istore 6, 2) := by decide +kernel
theorem dW_law_902 : decode code 902 = .ok (.aload_n 2, 1) := by decide +kernel
theorem dW_law_903 : decode code 903 = .ok (.invokevirtual 69, 3) := by decide +kernel
theorem dW_law_906 : decode code 906 = .ok (.iload 5, 2) := by decide +kernel
theorem dW_law_908 : decode code 908 = .ok (.if_icmp .eq 5, 3) := by decide +kernel
theorem dW_law_911 : decode code 911 = .ok (.iconst 0, 1) := by decide +kernel
theorem dW_law_912 : decode code 912 = .ok (.ireturn, 1) := by decide +kernel
theorem dW_law_913 : decode code 913 = .ok (.iload 5, 2) := by decide +kernel
theorem dW_law_915 : decode code 915 = .ok (.ifCond .ne 15, 3) := by decide +kernel
theorem dW_law_918 : decode code 918 = .ok (.aload_n 3, 1) := by decide +kernel
theorem dW_law_919 : decode code 919 = .ok (.iconst 0, 1) := by decide +kernel
theorem dW_law_920 : decode code 920 = .ok (.laload, 1) := by decide +kernel
theorem dW_law_921 : decode code 921 = .ok (.iload 6, 2) := by decide +kernel
theorem dW_law_923 : decode code 923 = .ok (.i2l, 1) := by decide +kernel
theorem dW_law_924 : decode code 924 = .ok (.lcmp, 1) := by decide +kernel
theorem dW_law_925 : decode code 925 = .ok (.ifCond .eq 5, 3) := by decide +kernel
theorem dW_law_928 : decode code 928 = .ok (.iconst 0, 1) := by decide +kernel
theorem dW_law_929 : decode code 929 = .ok (.ireturn, 1) := by decide +kernel
theorem dW_law_930 : decode code 930 = .ok (.goto 28, 3) := by decide +kernel
theorem dW_law_933 : decode code 933 = .ok (.aload_n 1, 1) := by decide +kernel
theorem dW_law_934 : decode code 934 = .ok (.aload_n 0, 1) := by decide +kernel
theorem dW_law_935 : decode code 935 = .ok (.iload 4, 2) := by decide +kernel
theorem dW_law_937 : decode code 937 = .ok (.iconst 1, 1) := by decide +kernel
theorem dW_law_938 : decode code 938 = .ok (.iadd, 1) := by decide +kernel
theorem dW_law_939 : decode code 939 = .ok (.iaload, 1) := by decide +kernel
theorem dW_law_940 : decode code 940 = .ok (.invokevirtual 114, 3) := by decide +kernel
theorem dW_law_943 : decode code 943 = .ok (.aload_n 2, 1) := by decide +kernel
theorem dW_law_944 : decode code 944 = .ok (.aload_n 0, 1) := by decide +kernel
theorem dW_law_945 : decode code 945 = .ok (.iload 4, 2) := by decide +kernel
theorem dW_law_947 : decode code 947 = .ok (.iconst 1, 1) := by decide +kernel
theorem dW_law_948 : decode code 948 = .ok (.iadd, 1) := by decide +kernel
theorem dW_law_949 : decode code 949 = .ok (.iaload, 1) := by decide +kernel
theorem dW_law_950 : decode code 950 = .ok (.invokevirtual 117, 3) := by decide +kernel
theorem dW_law_953 : decode code 953 = .ok (.if_icmp .eq 5, 3) := by decide +kernel
theorem dW_law_956 : decode code 956 = .ok (.iconst 0, 1) := by decide +kernel
theorem dW_law_957 : decode code 957 = .ok (.ireturn, 1) := by decide +kernel
theorem dW_law_958 : decode code 958 = .ok (.iinc 4 4, 3) := by decide +kernel
theorem dW_law_961 : decode code 961 = .ok (.goto (-938), 3) := by decide +kernel
theorem dW_law_964 : decode code 964 = .ok (.iconst 1, 1) := by decide +kernel
theorem dW_law_965 : decode code 965 = .ok (.ireturn, 1) := by decide +kernel
