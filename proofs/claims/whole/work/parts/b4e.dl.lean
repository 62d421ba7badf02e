/-! the law, decoded: 770 and on -/
theorem dl_770 : decode code 770 = .ok (.iload 4, 2) := by decide +kernel
theorem dl_772 : decode code 772 = .ok (.iconst 1, 1) := by decide +kernel
theorem dl_773 : decode code 773 = .ok (.iadd, 1) := by decide +kernel
theorem dl_774 : decode code 774 = .ok (.iaload, 1) := by decide +kernel
theorem dl_775 : decode code 775 = .ok (.aload_n 0, 1) := by decide +kernel
theorem dl_776 : decode code 776 = .ok (.iload 4, 2) := by decide +kernel
theorem dl_778 : decode code 778 = .ok (.iconst 2, 1) := by decide +kernel
theorem dl_779 : decode code 779 = .ok (.iadd, 1) := by decide +kernel
theorem dl_780 : decode code 780 = .ok (.iaload, 1) := by decide +kernel
theorem dl_781 : decode code 781 = .ok (.invokevirtual 82, 3) := by decide +kernel
theorem dl_784 : decode code 784 = .ok (.if_icmp .eq 1021, 3) := by decide +kernel
theorem dl_787 : decode code 787 = .ok (.iconst 0, 1) := by decide +kernel
theorem dl_788 : decode code 788 = .ok (.ireturn, 1) := by decide +kernel
theorem dl_789 : decode code 789 = .ok (.aload_n 1, 1) := by decide +kernel
theorem dl_790 : decode code 790 = .ok (.aload_n 0, 1) := by decide +kernel
theorem dl_791 : decode code 791 = .ok (.iload 4, 2) := by decide +kernel
theorem dl_793 : decode code 793 = .ok (.iconst 1, 1) := by decide +kernel
theorem dl_794 : decode code 794 = .ok (.iadd, 1) := by decide +kernel
theorem dl_795 : decode code 795 = .ok (.iaload, 1) := by decide +kernel
theorem dl_796 : decode code 796 = .ok (.invokevirtual 83, 3) := by decide +kernel
theorem dl_799 : decode code 799 = .ok (.aload_n 2, 1) := by decide +kernel
theorem dl_800 : decode code 800 = .ok (.aload_n 0, 1) := by decide +kernel
theorem dl_801 : decode code 801 = .ok (.iload 4, 2) := by decide +kernel
theorem dl_803 : decode code 803 = .ok (.iconst 1, 1) := by decide +kernel
theorem dl_804 : decode code 804 = .ok (.iadd, 1) := by decide +kernel
theorem dl_805 : decode code 805 = .ok (.iaload, 1) := by decide +kernel
theorem dl_806 : decode code 806 = .ok (.invokevirtual 87, 3) := by decide +kernel
theorem dl_809 : decode code 809 = .ok (.if_icmp .eq 996, 3) := by decide +kernel
theorem dl_812 : decode code 812 = .ok (.iconst 0, 1) := by decide +kernel
theorem dl_813 : decode code 813 = .ok (.ireturn, 1) := by decide +kernel
theorem dl_814 : decode code 814 = .ok (.aload_n 1, 1) := by decide +kernel
theorem dl_815 : decode code 815 = .ok (.aload_n 0, 1) := by decide +kernel
theorem dl_816 : decode code 816 = .ok (.iload 4, 2) := by decide +kernel
theorem dl_818 : decode code 818 = .ok (.iconst 1, 1) := by decide +kernel
theorem dl_819 : decode code 819 = .ok (.iadd, 1) := by decide +kernel
theorem dl_820 : decode code 820 = .ok (.iaload, 1) := by decide +kernel
theorem dl_821 : decode code 821 = .ok (.invokevirtual 88, 3) := by decide +kernel
theorem dl_824 : decode code 824 = .ok (.aload_n 2, 1) := by decide +kernel
theorem dl_825 : decode code 825 = .ok (.aload_n 0, 1) := by decide +kernel
theorem dl_826 : decode code 826 = .ok (.iload 4, 2) := by decide +kernel
theorem dl_828 : decode code 828 = .ok (.iconst 1, 1) := by decide +kernel
theorem dl_829 : decode code 829 = .ok (.iadd, 1) := by decide +kernel
theorem dl_830 : decode code 830 = .ok (.iaload, 1) := by decide +kernel
theorem dl_831 : decode code 831 = .ok (.invokevirtual 91, 3) := by decide +kernel
theorem dl_834 : decode code 834 = .ok (.if_icmp .eq 971, 3) := by decide +kernel
theorem dl_837 : decode code 837 = .ok (.iconst 0, 1) := by decide +kernel
theorem dl_838 : decode code 838 = .ok (.ireturn, 1) := by decide +kernel
theorem dl_839 : decode code 839 = .ok (.aload_n 1, 1) := by decide +kernel
theorem dl_840 : decode code 840 = .ok (.aload_n 0, 1) := by decide +kernel
theorem dl_841 : decode code 841 = .ok (.iload 4, 2) := by decide +kernel
theorem dl_843 : decode code 843 = .ok (.iconst 1, 1) := by decide +kernel
theorem dl_844 : decode code 844 = .ok (.iadd, 1) := by decide +kernel
theorem dl_845 : decode code 845 = .ok (.iaload, 1) := by decide +kernel
theorem dl_846 : decode code 846 = .ok (.aload_n 0, 1) := by decide +kernel
theorem dl_847 : decode code 847 = .ok (.iload 4, 2) := by decide +kernel
theorem dl_849 : decode code 849 = .ok (.iconst 2, 1) := by decide +kernel
theorem dl_850 : decode code 850 = .ok (.iadd, 1) := by decide +kernel
theorem dl_851 : decode code 851 = .ok (.iaload, 1) := by decide +kernel
theorem dl_852 : decode code 852 = .ok (.aload_n 0, 1) := by decide +kernel
theorem dl_853 : decode code 853 = .ok (.iload 4, 2) := by decide +kernel
theorem dl_855 : decode code 855 = .ok (.iconst 3, 1) := by decide +kernel
theorem dl_856 : decode code 856 = .ok (.iadd, 1) := by decide +kernel
theorem dl_857 : decode code 857 = .ok (.iaload, 1) := by decide +kernel
theorem dl_858 : decode code 858 = .ok (.invokevirtual 92, 3) := by decide +kernel
theorem dl_861 : decode code 861 = .ok (.aload_n 2, 1) := by decide +kernel
theorem dl_862 : decode code 862 = .ok (.aload_n 0, 1) := by decide +kernel
theorem dl_863 : decode code 863 = .ok (.iload 4, 2) := by decide +kernel
theorem dl_865 : decode code 865 = .ok (.iconst 1, 1) := by decide +kernel
theorem dl_866 : decode code 866 = .ok (.iadd, 1) := by decide +kernel
theorem dl_867 : decode code 867 = .ok (.iaload, 1) := by decide +kernel
theorem dl_868 : decode code 868 = .ok (.aload_n 0, 1) := by decide +kernel
theorem dl_869 : decode code 869 = .ok (.iload 4, 2) := by decide +kernel
theorem dl_871 : decode code 871 = .ok (.iconst 2, 1) := by decide +kernel
theorem dl_872 : decode code 872 = .ok (.iadd, 1) := by decide +kernel
theorem dl_873 : decode code 873 = .ok (.iaload, 1) := by decide +kernel
theorem dl_874 : decode code 874 = .ok (.aload_n 0, 1) := by decide +kernel
theorem dl_875 : decode code 875 = .ok (.iload 4, 2) := by decide +kernel
theorem dl_877 : decode code 877 = .ok (.iconst 3, 1) := by decide +kernel
theorem dl_878 : decode code 878 = .ok (.iadd, 1) := by decide +kernel
theorem dl_879 : decode code 879 = .ok (.iaload, 1) := by decide +kernel
theorem dl_880 : decode code 880 = .ok (.invokevirtual 96, 3) := by decide +kernel
theorem dl_883 : decode code 883 = .ok (.if_icmp .eq 922, 3) := by decide +kernel
theorem dl_886 : decode code 886 = .ok (.iconst 0, 1) := by decide +kernel
theorem dl_887 : decode code 887 = .ok (.ireturn, 1) := by decide +kernel
theorem dl_888 : decode code 888 = .ok (.aload_n 1, 1) := by decide +kernel
theorem dl_889 : decode code 889 = .ok (.invokevirtual 97, 3) := by decide +kernel
theorem dl_892 : decode code 892 = .ok (.aload_n 2, 1) := by decide +kernel
theorem dl_893 : decode code 893 = .ok (.invokevirtual 100, 3) := by decide +kernel
theorem dl_896 : decode code 896 = .ok (.if_icmp .eq 909, 3) := by decide +kernel
theorem dl_899 : decode code 899 = .ok (.iconst 0, 1) := by decide +kernel
theorem dl_900 : decode code 900 = .ok (.ireturn, 1) := by decide +kernel
theorem dl_901 : decode code 901 = .ok (.aload_n 1, 1) := by decide +kernel
theorem dl_902 : decode code 902 = .ok (.invokevirtual 101, 3) := by decide +kernel
theorem dl_905 : decode code 905 = .ok (.aload_n 2, 1) := by decide +kernel
theorem dl_906 : decode code 906 = .ok (.invokevirtual 104, 3) := by decide +kernel
theorem dl_909 : decode code 909 = .ok (.if_icmp .eq 896, 3) := by decide +kernel
theorem dl_912 : decode code 912 = .ok (.iconst 0, 1) := by decide +kernel
theorem dl_913 : decode code 913 = .ok (.ireturn, 1) := by decide +kernel
theorem dl_914 : decode code 914 = .ok (.aload_n 1, 1) := by decide +kernel
theorem dl_915 : decode code 915 = .ok (.aload_n 0, 1) := by decide +kernel
