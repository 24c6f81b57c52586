/-! The law: what stands at its places, 4. -/
theorem dC_740 : decode code 740 = .ok (.iaload, 1) := by decide +kernel
theorem dC_741 : decode code 741 = .ok (.invokevirtual 142, 3) := by decide +kernel
theorem dC_744 : decode code 744 = .ok (.aload_n 2, 1) := by decide +kernel
theorem dC_745 : decode code 745 = .ok (.invokevirtual 110, 3) := by decide +kernel
theorem dC_748 : decode code 748 = .ok (.iload 6, 2) := by decide +kernel
theorem dC_750 : decode code 750 = .ok (.if_icmp .eq 5, 3) := by decide +kernel
theorem dC_755 : decode code 755 = .ok (.goto 996, 3) := by decide +kernel
theorem dC_758 : decode code 758 = .ok (.aload_n 1, 1) := by decide +kernel
theorem dC_759 : decode code 759 = .ok (.aload_n 0, 1) := by decide +kernel
theorem dC_760 : decode code 760 = .ok (.iload 5, 2) := by decide +kernel
theorem dC_762 : decode code 762 = .ok (.iconst 1, 1) := by decide +kernel
theorem dC_763 : decode code 763 = .ok (.iadd, 1) := by decide +kernel
theorem dC_764 : decode code 764 = .ok (.iaload, 1) := by decide +kernel
theorem dC_765 : decode code 765 = .ok (.aload_n 0, 1) := by decide +kernel
theorem dC_766 : decode code 766 = .ok (.iload 5, 2) := by decide +kernel
theorem dC_768 : decode code 768 = .ok (.iconst 2, 1) := by decide +kernel
theorem dC_769 : decode code 769 = .ok (.iadd, 1) := by decide +kernel
theorem dC_770 : decode code 770 = .ok (.iaload, 1) := by decide +kernel
theorem dC_771 : decode code 771 = .ok (.invokestatic 143, 3) := by decide +kernel
theorem dC_774 : decode code 774 = .ok (.istore 6, 2) := by decide +kernel
theorem dC_776 : decode code 776 = .ok (.aload_n 2, 1) := by decide +kernel
theorem dC_777 : decode code 777 = .ok (.aload_n 0, 1) := by decide +kernel
theorem dC_778 : decode code 778 = .ok (.iload 5, 2) := by decide +kernel
theorem dC_780 : decode code 780 = .ok (.iconst 1, 1) := by decide +kernel
theorem dC_781 : decode code 781 = .ok (.iadd, 1) := by decide +kernel
theorem dC_782 : decode code 782 = .ok (.iaload, 1) := by decide +kernel
theorem dC_783 : decode code 783 = .ok (.aload_n 0, 1) := by decide +kernel
theorem dC_784 : decode code 784 = .ok (.iload 5, 2) := by decide +kernel
theorem dC_786 : decode code 786 = .ok (.iconst 2, 1) := by decide +kernel
theorem dC_787 : decode code 787 = .ok (.iadd, 1) := by decide +kernel
theorem dC_788 : decode code 788 = .ok (.iaload, 1) := by decide +kernel
theorem dC_789 : decode code 789 = .ok (.invokevirtual 146, 3) := by decide +kernel
theorem dC_792 : decode code 792 = .ok (.aload_n 2, 1) := by decide +kernel
theorem dC_793 : decode code 793 = .ok (.invokevirtual 110, 3) := by decide +kernel
theorem dC_796 : decode code 796 = .ok (.iload 6, 2) := by decide +kernel
theorem dC_798 : decode code 798 = .ok (.if_icmp .eq 5, 3) := by decide +kernel
theorem dC_803 : decode code 803 = .ok (.goto 948, 3) := by decide +kernel
theorem dC_806 : decode code 806 = .ok (.aload_n 1, 1) := by decide +kernel
theorem dC_807 : decode code 807 = .ok (.aload_n 0, 1) := by decide +kernel
theorem dC_808 : decode code 808 = .ok (.iload 5, 2) := by decide +kernel
theorem dC_810 : decode code 810 = .ok (.iconst 1, 1) := by decide +kernel
theorem dC_811 : decode code 811 = .ok (.iadd, 1) := by decide +kernel
theorem dC_812 : decode code 812 = .ok (.iaload, 1) := by decide +kernel
theorem dC_813 : decode code 813 = .ok (.aload_n 0, 1) := by decide +kernel
theorem dC_814 : decode code 814 = .ok (.iload 5, 2) := by decide +kernel
theorem dC_816 : decode code 816 = .ok (.iconst 2, 1) := by decide +kernel
theorem dC_817 : decode code 817 = .ok (.iadd, 1) := by decide +kernel
theorem dC_818 : decode code 818 = .ok (.iaload, 1) := by decide +kernel
theorem dC_819 : decode code 819 = .ok (.aload_n 3, 1) := by decide +kernel
theorem dC_820 : decode code 820 = .ok (.invokestatic 147, 3) := by decide +kernel
theorem dC_823 : decode code 823 = .ok (.istore 6, 2) := by decide +kernel
theorem dC_825 : decode code 825 = .ok (.aload_n 2, 1) := by decide +kernel
theorem dC_826 : decode code 826 = .ok (.aload_n 0, 1) := by decide +kernel
theorem dC_827 : decode code 827 = .ok (.iload 5, 2) := by decide +kernel
theorem dC_829 : decode code 829 = .ok (.iconst 1, 1) := by decide +kernel
theorem dC_830 : decode code 830 = .ok (.iadd, 1) := by decide +kernel
theorem dC_831 : decode code 831 = .ok (.iaload, 1) := by decide +kernel
theorem dC_832 : decode code 832 = .ok (.aload_n 0, 1) := by decide +kernel
theorem dC_833 : decode code 833 = .ok (.iload 5, 2) := by decide +kernel
theorem dC_835 : decode code 835 = .ok (.iconst 2, 1) := by decide +kernel
theorem dC_836 : decode code 836 = .ok (.iadd, 1) := by decide +kernel
theorem dC_837 : decode code 837 = .ok (.iaload, 1) := by decide +kernel
theorem dC_838 : decode code 838 = .ok (.invokevirtual 149, 3) := by decide +kernel
theorem dC_841 : decode code 841 = .ok (.istore 7, 2) := by decide +kernel
theorem dC_843 : decode code 843 = .ok (.aload_n 2, 1) := by decide +kernel
theorem dC_844 : decode code 844 = .ok (.invokevirtual 110, 3) := by decide +kernel
theorem dC_847 : decode code 847 = .ok (.iload 6, 2) := by decide +kernel
theorem dC_849 : decode code 849 = .ok (.if_icmp .eq 5, 3) := by decide +kernel
theorem dC_854 : decode code 854 = .ok (.iload 6, 2) := by decide +kernel
theorem dC_856 : decode code 856 = .ok (.ifCond .ne 15, 3) := by decide +kernel
theorem dC_859 : decode code 859 = .ok (.aload_n 3, 1) := by decide +kernel
theorem dC_860 : decode code 860 = .ok (.iconst 0, 1) := by decide +kernel
theorem dC_861 : decode code 861 = .ok (.laload, 1) := by decide +kernel
theorem dC_862 : decode code 862 = .ok (.iload 7, 2) := by decide +kernel
theorem dC_864 : decode code 864 = .ok (.i2l, 1) := by decide +kernel
theorem dC_865 : decode code 865 = .ok (.lcmp, 1) := by decide +kernel
theorem dC_866 : decode code 866 = .ok (.ifCond .eq 5, 3) := by decide +kernel
theorem dC_871 : decode code 871 = .ok (.goto 880, 3) := by decide +kernel
theorem dC_874 : decode code 874 = .ok (.aload_n 1, 1) := by decide +kernel
theorem dC_875 : decode code 875 = .ok (.aload_n 0, 1) := by decide +kernel
theorem dC_876 : decode code 876 = .ok (.iload 5, 2) := by decide +kernel
theorem dC_878 : decode code 878 = .ok (.iconst 1, 1) := by decide +kernel
theorem dC_879 : decode code 879 = .ok (.iadd, 1) := by decide +kernel
theorem dC_880 : decode code 880 = .ok (.iaload, 1) := by decide +kernel
theorem dC_881 : decode code 881 = .ok (.aload_n 0, 1) := by decide +kernel
theorem dC_882 : decode code 882 = .ok (.iload 5, 2) := by decide +kernel
theorem dC_884 : decode code 884 = .ok (.iconst 2, 1) := by decide +kernel
theorem dC_885 : decode code 885 = .ok (.iadd, 1) := by decide +kernel
theorem dC_886 : decode code 886 = .ok (.iaload, 1) := by decide +kernel
theorem dC_887 : decode code 887 = .ok (.aload_n 3, 1) := by decide +kernel
theorem dC_888 : decode code 888 = .ok (.invokestatic 150, 3) := by decide +kernel
theorem dC_891 : decode code 891 = .ok (.istore 6, 2) := by decide +kernel
theorem dC_893 : decode code 893 = .ok (.aload_n 2, 1) := by decide +kernel
theorem dC_894 : decode code 894 = .ok (.aload_n 0, 1) := by decide +kernel
theorem dC_895 : decode code 895 = .ok (.iload 5, 2) := by decide +kernel
theorem dC_897 : decode code 897 = .ok (.iconst 1, 1) := by decide +kernel
theorem dC_898 : decode code 898 = .ok (.iadd, 1) := by decide +kernel
theorem dC_899 : decode code 899 = .ok (.iaload, 1) := by decide +kernel
theorem dC_900 : decode code 900 = .ok (.aload_n 0, 1) := by decide +kernel
theorem dC_901 : decode code 901 = .ok (.iload 5, 2) := by decide +kernel
theorem dC_903 : decode code 903 = .ok (.iconst 2, 1) := by decide +kernel
theorem dC_904 : decode code 904 = .ok (.iadd, 1) := by decide +kernel
theorem dC_905 : decode code 905 = .ok (.iaload, 1) := by decide +kernel
theorem dC_906 : decode code 906 = .ok (.invokevirtual 152, 3) := by decide +kernel
theorem dC_909 : decode code 909 = .ok (.istore 7, 2) := by decide +kernel
theorem dC_911 : decode code 911 = .ok (.aload_n 2, 1) := by decide +kernel
theorem dC_912 : decode code 912 = .ok (.invokevirtual 110, 3) := by decide +kernel
theorem dC_915 : decode code 915 = .ok (.iload 6, 2) := by decide +kernel
theorem dC_917 : decode code 917 = .ok (.if_icmp .eq 5, 3) := by decide +kernel
theorem dC_922 : decode code 922 = .ok (.iload 6, 2) := by decide +kernel
theorem dC_924 : decode code 924 = .ok (.ifCond .ne 15, 3) := by decide +kernel
theorem dC_927 : decode code 927 = .ok (.aload_n 3, 1) := by decide +kernel
theorem dC_928 : decode code 928 = .ok (.iconst 0, 1) := by decide +kernel
theorem dC_929 : decode code 929 = .ok (.laload, 1) := by decide +kernel
theorem dC_930 : decode code 930 = .ok (.iload 7, 2) := by decide +kernel
theorem dC_932 : decode code 932 = .ok (.i2l, 1) := by decide +kernel
theorem dC_933 : decode code 933 = .ok (.lcmp, 1) := by decide +kernel
theorem dC_934 : decode code 934 = .ok (.ifCond .eq 5, 3) := by decide +kernel
theorem dC_939 : decode code 939 = .ok (.goto 812, 3) := by decide +kernel
theorem dC_942 : decode code 942 = .ok (.aload_n 1, 1) := by decide +kernel
theorem dC_943 : decode code 943 = .ok (.aload_n 0, 1) := by decide +kernel
theorem dC_944 : decode code 944 = .ok (.iload 5, 2) := by decide +kernel
theorem dC_946 : decode code 946 = .ok (.iconst 1, 1) := by decide +kernel
theorem dC_947 : decode code 947 = .ok (.iadd, 1) := by decide +kernel
theorem dC_948 : decode code 948 = .ok (.iaload, 1) := by decide +kernel
theorem dC_949 : decode code 949 = .ok (.aload_n 0, 1) := by decide +kernel
theorem dC_950 : decode code 950 = .ok (.iload 5, 2) := by decide +kernel
theorem dC_952 : decode code 952 = .ok (.iconst 2, 1) := by decide +kernel
theorem dC_953 : decode code 953 = .ok (.iadd, 1) := by decide +kernel
theorem dC_954 : decode code 954 = .ok (.iaload, 1) := by decide +kernel
