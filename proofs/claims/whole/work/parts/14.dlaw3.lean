theorem d_Law_law_766 : decode code 766 = .ok (.iload 6, 2) := by decide +kernel
theorem d_Law_law_768 : decode code 768 = .ok (.i2l, 1) := by decide +kernel
theorem d_Law_law_769 : decode code 769 = .ok (.lcmp, 1) := by decide +kernel
theorem d_Law_law_770 : decode code 770 = .ok (.ifCond .eq 5, 3) := by decide +kernel
theorem d_Law_law_773 : decode code 773 = .ok (.iconst 0, 1) := by decide +kernel
theorem d_Law_law_774 : decode code 774 = .ok (.ireturn, 1) := by decide +kernel
theorem d_Law_law_775 : decode code 775 = .ok (.goto 222, 3) := by decide +kernel
theorem d_Law_law_778 : decode code 778 = .ok (.aload_n 1, 1) := by decide +kernel
theorem d_Law_law_779 : decode code 779 = .ok (.invokevirtual 97, 3) := by decide +kernel
theorem d_Law_law_782 : decode code 782 = .ok (.aload_n 2, 1) := by decide +kernel
theorem d_Law_law_783 : decode code 783 = .ok (.invokevirtual 101, 3) := by decide +kernel
theorem d_Law_law_786 : decode code 786 = .ok (.lcmp, 1) := by decide +kernel
theorem d_Law_law_787 : decode code 787 = .ok (.ifCond .eq 210, 3) := by decide +kernel
theorem d_Law_law_790 : decode code 790 = .ok (.iconst 0, 1) := by decide +kernel
theorem d_Law_law_791 : decode code 791 = .ok (.ireturn, 1) := by decide +kernel
theorem d_Law_law_792 : decode code 792 = .ok (.aload_n 1, 1) := by decide +kernel
theorem d_Law_law_793 : decode code 793 = .ok (.invokevirtual 102, 3) := by decide +kernel
theorem d_Law_law_796 : decode code 796 = .ok (.aload_n 2, 1) := by decide +kernel
theorem d_Law_law_797 : decode code 797 = .ok (.invokevirtual 105, 3) := by decide +kernel
theorem d_Law_law_800 : decode code 800 = .ok (.if_icmp .eq 197, 3) := by decide +kernel
theorem d_Law_law_803 : decode code 803 = .ok (.iconst 0, 1) := by decide +kernel
theorem d_Law_law_804 : decode code 804 = .ok (.ireturn, 1) := by decide +kernel
theorem d_Law_law_805 : decode code 805 = .ok (.aload_n 1, 1) := by decide +kernel
theorem d_Law_law_806 : decode code 806 = .ok (.aload_n 0, 1) := by decide +kernel
theorem d_Law_law_807 : decode code 807 = .ok (.iload 4, 2) := by decide +kernel
theorem d_Law_law_809 : decode code 809 = .ok (.iconst 1, 1) := by decide +kernel
theorem d_Law_law_810 : decode code 810 = .ok (.iadd, 1) := by decide +kernel
theorem d_Law_law_811 : decode code 811 = .ok (.iaload, 1) := by decide +kernel
theorem d_Law_law_812 : decode code 812 = .ok (.aload_n 0, 1) := by decide +kernel
theorem d_Law_law_813 : decode code 813 = .ok (.iload 4, 2) := by decide +kernel
theorem d_Law_law_815 : decode code 815 = .ok (.iconst 2, 1) := by decide +kernel
theorem d_Law_law_816 : decode code 816 = .ok (.iadd, 1) := by decide +kernel
theorem d_Law_law_817 : decode code 817 = .ok (.iaload, 1) := by decide +kernel
theorem d_Law_law_818 : decode code 818 = .ok (.aload_n 3, 1) := by decide +kernel
theorem d_Law_law_819 : decode code 819 = .ok (.invokestatic 106, 3) := by decide +kernel
theorem d_Law_law_822 : decode code 822 = .ok (.istore 5, 2) := by decide +kernel
theorem d_Law_law_824 : decode code 824 = .ok (.aload_n 2, 1) := by decide +kernel
theorem d_Law_law_825 : decode code 825 = .ok (.aload_n 0, 1) := by decide +kernel
theorem d_Law_law_826 : decode code 826 = .ok (.iload 4, 2) := by decide +kernel
theorem d_Law_law_828 : decode code 828 = .ok (.iconst 1, 1) := by decide +kernel
theorem d_Law_law_829 : decode code 829 = .ok (.iadd, 1) := by decide +kernel
theorem d_Law_law_830 : decode code 830 = .ok (.iaload, 1) := by decide +kernel
theorem d_Law_law_831 : decode code 831 = .ok (.aload_n 0, 1) := by decide +kernel
theorem d_Law_law_832 : decode code 832 = .ok (.iload 4, 2) := by decide +kernel
theorem d_Law_law_834 : decode code 834 = .ok (.iconst 2, 1) := by decide +kernel
theorem d_Law_law_835 : decode code 835 = .ok (.iadd, 1) := by decide +kernel
theorem d_Law_law_836 : decode code 836 = .ok (.iaload, 1) := by decide +kernel
theorem d_Law_law_837 : decode code 837 = .ok (.invokevirtual 108, 3) := by decide +kernel
theorem d_Law_law_840 : decode code 840 = .ok (.istore 6, 2) := by decide +kernel
theorem d_Law_law_842 : decode code 842 = .ok (.aload_n 2, 1) := by decide +kernel
theorem d_Law_law_843 : decode code 843 = .ok (.invokevirtual 68, 3) := by decide +kernel
theorem d_Law_law_846 : decode code 846 = .ok (.iload 5, 2) := by decide +kernel
theorem d_Law_law_848 : decode code 848 = .ok (.if_icmp .eq 5, 3) := by decide +kernel
theorem d_Law_law_851 : decode code 851 = .ok (.iconst 0, 1) := by decide +kernel
theorem d_Law_law_852 : decode code 852 = .ok (.ireturn, 1) := by decide +kernel
theorem d_Law_law_853 : decode code 853 = .ok (.iload 5, 2) := by decide +kernel
theorem d_Law_law_855 : decode code 855 = .ok (.ifCond .ne 15, 3) := by decide +kernel
theorem d_Law_law_858 : decode code 858 = .ok (.aload_n 3, 1) := by decide +kernel
theorem d_Law_law_859 : decode code 859 = .ok (.iconst 0, 1) := by decide +kernel
theorem d_Law_law_860 : decode code 860 = .ok (.laload, 1) := by decide +kernel
theorem d_Law_law_861 : decode code 861 = .ok (.iload 6, 2) := by decide +kernel
theorem d_Law_law_863 : decode code 863 = .ok (.i2l, 1) := by decide +kernel
theorem d_Law_law_864 : decode code 864 = .ok (.lcmp, 1) := by decide +kernel
theorem d_Law_law_865 : decode code 865 = .ok (.ifCond .eq 5, 3) := by decide +kernel
theorem d_Law_law_868 : decode code 868 = .ok (.iconst 0, 1) := by decide +kernel
theorem d_Law_law_869 : decode code 869 = .ok (.ireturn, 1) := by decide +kernel
theorem d_Law_law_870 : decode code 870 = .ok (.goto 127, 3) := by decide +kernel
theorem d_Law_law_873 : decode code 873 = .ok (.aload_n 1, 1) := by decide +kernel
theorem d_Law_law_874 : decode code 874 = .ok (.aload_n 0, 1) := by decide +kernel
theorem d_Law_law_875 : decode code 875 = .ok (.iload 4, 2) := by decide +kernel
theorem d_Law_law_877 : decode code 877 = .ok (.iconst 1, 1) := by decide +kernel
theorem d_Law_law_878 : decode code 878 = .ok (.iadd, 1) := by decide +kernel
theorem d_Law_law_879 : decode code 879 = .ok (.iaload, 1) := by decide +kernel
theorem d_Law_law_880 : decode code 880 = .ok (.aload_n 0, 1) := by decide +kernel
theorem d_Law_law_881 : decode code 881 = .ok (.iload 4, 2) := by decide +kernel
theorem d_Law_law_883 : decode code 883 = .ok (.iconst 2, 1) := by decide +kernel
theorem d_Law_law_884 : decode code 884 = .ok (.iadd, 1) := by decide +kernel
theorem d_Law_law_885 : decode code 885 = .ok (.iaload, 1) := by decide +kernel
theorem d_Law_law_886 : decode code 886 = .ok (.aload_n 3, 1) := by decide +kernel
theorem d_Law_law_887 : decode code 887 = .ok (.invokestatic 109, 3) := by decide +kernel
theorem d_Law_law_890 : decode code 890 = .ok (.istore 5, 2) := by decide +kernel
theorem d_Law_law_892 : decode code 892 = .ok (.aload_n 2, 1) := by decide +kernel
theorem d_Law_law_893 : decode code 893 = .ok (.aload_n 0, 1) := by decide +kernel
theorem d_Law_law_894 : decode code 894 = .ok (.iload 4, 2) := by decide +kernel
theorem d_Law_law_896 : decode code 896 = .ok (.iconst 1, 1) := by decide +kernel
theorem d_Law_law_897 : decode code 897 = .ok (.iadd, 1) := by decide +kernel
theorem d_Law_law_898 : decode code 898 = .ok (.iaload, 1) := by decide +kernel
theorem d_Law_law_899 : decode code 899 = .ok (.aload_n 0, 1) := by decide +kernel
theorem d_Law_law_900 : decode code 900 = .ok (.iload 4, 2) := by decide +kernel
theorem d_Law_law_902 : decode code 902 = .ok (.iconst 2, 1) := by decide +kernel
theorem d_Law_law_903 : decode code 903 = .ok (.iadd, 1) := by decide +kernel
theorem d_Law_law_904 : decode code 904 = .ok (.iaload, 1) := by decide +kernel
theorem d_Law_law_905 : decode code 905 = .ok (.invokevirtual 111, 3) := by decide +kernel
theorem d_Law_law_908 : decode code 908 = .ok (.istore 6, 2) := by decide +kernel
theorem d_Law_law_910 : decode code 910 = .ok (.aload_n 2, 1) := by decide +kernel
theorem d_Law_law_911 : decode code 911 = .ok (.invokevirtual 68, 3) := by decide +kernel
theorem d_Law_law_914 : decode code 914 = .ok (.iload 5, 2) := by decide +kernel
theorem d_Law_law_916 : decode code 916 = .ok (.if_icmp .eq 5, 3) := by decide +kernel
theorem d_Law_law_919 : decode code 919 = .ok (.iconst 0, 1) := by decide +kernel
theorem d_Law_law_920 : decode code 920 = .ok (.ireturn, 1) := by decide +kernel
theorem d_Law_law_921 : decode code 921 = .ok (.iload 5, 2) := by decide +kernel
theorem d_Law_law_923 : decode code 923 = .ok (.ifCond .ne 15, 3) := by decide +kernel
theorem d_Law_law_926 : decode code 926 = .ok (.aload_n 3, 1) := by decide +kernel
theorem d_Law_law_927 : decode code 927 = .ok (.iconst 0, 1) := by decide +kernel
theorem d_Law_law_928 : decode code 928 = .ok (.laload, 1) := by decide +kernel
theorem d_Law_law_929 : decode code 929 = .ok (.iload 6, 2) := by decide +kernel
theorem d_Law_law_931 : decode code 931 = .ok (.i2l, 1) := by decide +kernel
theorem d_Law_law_932 : decode code 932 = .ok (.lcmp, 1) := by decide +kernel
theorem d_Law_law_933 : decode code 933 = .ok (.ifCond .eq 5, 3) := by decide +kernel
theorem d_Law_law_936 : decode code 936 = .ok (.iconst 0, 1) := by decide +kernel
theorem d_Law_law_937 : decode code 937 = .ok (.ireturn, 1) := by decide +kernel
theorem d_Law_law_938 : decode code 938 = .ok (.goto 59, 3) := by decide +kernel
theorem d_Law_law_941 : decode code 941 = .ok (.aload_n 1, 1) := by decide +kernel
theorem d_Law_law_942 : decode code 942 = .ok (.aload_n 0, 1) := by decide +kernel
theorem d_Law_law_943 : decode code 943 = .ok (.iload 4, 2) := by decide +kernel
theorem d_Law_law_945 : decode code 945 = .ok (.iconst 1, 1) := by decide +kernel
theorem d_Law_law_946 : decode code 946 = .ok (.iadd, 1) := by decide +kernel
theorem d_Law_law_947 : decode code 947 = .ok (.iaload, 1) := by decide +kernel
theorem d_Law_law_948 : decode code 948 = .ok (.aload_n 3, 1) := by decide +kernel
theorem d_Law_law_949 : decode code 949 = .ok (.invokestatic 112, 3) := by decide +kernel
theorem d_Law_law_952 : decode code 952 = .ok (.istore 5, 2) := by decide +kernel
theorem d_Law_law_954 : decode code 954 = .ok (.aload_n 2, 1) := by decide +kernel
theorem d_Law_law_955 : decode code 955 = .ok (.aload_n 0, 1) := by decide +kernel
theorem d_Law_law_956 : decode code 956 = .ok (.iload 4, 2) := by decide +kernel
theorem d_Law_law_958 : decode code 958 = .ok (.iconst 1, 1) := by decide +kernel
theorem d_Law_law_959 : decode code 959 = .ok (.iadd, 1) := by decide +kernel
theorem d_Law_law_960 : decode code 960 = .ok (.iaload, 1) := by decide +kernel
theorem d_Law_law_961 : decode code 961 = .ok (.invokevirtual 114, 3) := by decide +kernel
theorem d_Law_law_964 : decode code 964 = .ok (.istore 6, 2) := by decide +kernel
theorem d_Law_law_966 : decode code 966 = .ok (.aload_n 2, 1) := by decide +kernel
theorem d_Law_law_967 : decode code 967 = .ok (.invokevirtual 68, 3) := by decide +kernel
theorem d_Law_law_970 : decode code 970 = .ok (.iload 5, 2) := by decide +kernel
theorem d_Law_law_972 : decode code 972 = .ok (.if_icmp .eq 5, 3) := by decide +kernel
theorem d_Law_law_975 : decode code 975 = .ok (.iconst 0, 1) := by decide +kernel
theorem d_Law_law_976 : decode code 976 = .ok (.ireturn, 1) := by decide +kernel
theorem d_Law_law_977 : decode code 977 = .ok (.iload 5, 2) := by decide +kernel
theorem d_Law_law_979 : decode code 979 = .ok (.ifCond .ne 15, 3) := by decide +kernel
theorem d_Law_law_982 : decode code 982 = .ok (.aload_n 3, 1) := by decide +kernel
theorem d_Law_law_983 : decode code 983 = .ok (.iconst 0, 1) := by decide +kernel
theorem d_Law_law_984 : decode code 984 = .ok (.laload, 1) := by decide +kernel
theorem d_Law_law_985 : decode code 985 = .ok (.iload 6, 2) := by decide +kernel
theorem d_Law_law_987 : decode code 987 = .ok (.i2l, 1) := by decide +kernel
theorem d_Law_law_988 : decode code 988 = .ok (.lcmp, 1) := by decide +kernel
theorem d_Law_law_989 : decode code 989 = .ok (.ifCond .eq 5, 3) := by decide +kernel
theorem d_Law_law_992 : decode code 992 = .ok (.iconst 0, 1) := by decide +kernel
theorem d_Law_law_993 : decode code 993 = .ok (.ireturn, 1) := by decide +kernel
theorem d_Law_law_994 : decode code 994 = .ok (.goto 3, 3) := by decide +kernel
theorem d_Law_law_997 : decode code 997 = .ok (.iinc 4 7, 3) := by decide +kernel
theorem d_Law_law_1000 : decode code 1000 = .ok (.goto (-977), 3) := by decide +kernel
theorem d_Law_law_1003 : decode code 1003 = .ok (.iconst 1, 1) := by decide +kernel
theorem d_Law_law_1004 : decode code 1004 = .ok (.ireturn, 1) := by decide +kernel
