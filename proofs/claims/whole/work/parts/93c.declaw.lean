/-! the law, its bytes -/
theorem dL_law__710 : decode cL_law_ 710 = .ok (.laload, 1) := by decide +kernel
theorem dL_law__711 : decode cL_law_ 711 = .ok (.iload 6, 2) := by decide +kernel
theorem dL_law__713 : decode cL_law_ 713 = .ok (.i2l, 1) := by decide +kernel
theorem dL_law__714 : decode cL_law_ 714 = .ok (.lcmp, 1) := by decide +kernel
theorem dL_law__715 : decode cL_law_ 715 = .ok (.ifCond .eq 5, 3) := by decide +kernel
theorem dL_law__720 : decode cL_law_ 720 = .ok (.goto 2035, 3) := by decide +kernel
theorem dL_law__723 : decode cL_law_ 723 = .ok (.aload_n 1, 1) := by decide +kernel
theorem dL_law__724 : decode cL_law_ 724 = .ok (.aload_n 0, 1) := by decide +kernel
theorem dL_law__725 : decode cL_law_ 725 = .ok (.iload 4, 2) := by decide +kernel
theorem dL_law__727 : decode cL_law_ 727 = .ok (.iconst 1, 1) := by decide +kernel
theorem dL_law__728 : decode cL_law_ 728 = .ok (.iadd, 1) := by decide +kernel
theorem dL_law__729 : decode cL_law_ 729 = .ok (.iaload, 1) := by decide +kernel
theorem dL_law__730 : decode cL_law_ 730 = .ok (.aload_n 0, 1) := by decide +kernel
theorem dL_law__731 : decode cL_law_ 731 = .ok (.iload 4, 2) := by decide +kernel
theorem dL_law__733 : decode cL_law_ 733 = .ok (.iconst 2, 1) := by decide +kernel
theorem dL_law__734 : decode cL_law_ 734 = .ok (.iadd, 1) := by decide +kernel
theorem dL_law__735 : decode cL_law_ 735 = .ok (.iaload, 1) := by decide +kernel
theorem dL_law__736 : decode cL_law_ 736 = .ok (.aload_n 3, 1) := by decide +kernel
theorem dL_law__737 : decode cL_law_ 737 = .ok (.invokestatic 159, 3) := by decide +kernel
theorem dL_law__740 : decode cL_law_ 740 = .ok (.istore 5, 2) := by decide +kernel
theorem dL_law__742 : decode cL_law_ 742 = .ok (.aload_n 2, 1) := by decide +kernel
theorem dL_law__743 : decode cL_law_ 743 = .ok (.aload_n 0, 1) := by decide +kernel
theorem dL_law__744 : decode cL_law_ 744 = .ok (.iload 4, 2) := by decide +kernel
theorem dL_law__746 : decode cL_law_ 746 = .ok (.iconst 1, 1) := by decide +kernel
theorem dL_law__747 : decode cL_law_ 747 = .ok (.iadd, 1) := by decide +kernel
theorem dL_law__748 : decode cL_law_ 748 = .ok (.iaload, 1) := by decide +kernel
theorem dL_law__749 : decode cL_law_ 749 = .ok (.aload_n 0, 1) := by decide +kernel
theorem dL_law__750 : decode cL_law_ 750 = .ok (.iload 4, 2) := by decide +kernel
theorem dL_law__752 : decode cL_law_ 752 = .ok (.iconst 2, 1) := by decide +kernel
theorem dL_law__753 : decode cL_law_ 753 = .ok (.iadd, 1) := by decide +kernel
theorem dL_law__754 : decode cL_law_ 754 = .ok (.iaload, 1) := by decide +kernel
theorem dL_law__755 : decode cL_law_ 755 = .ok (.invokevirtual 161, 3) := by decide +kernel
theorem dL_law__758 : decode cL_law_ 758 = .ok (.istore 6, 2) := by decide +kernel
theorem dL_law__760 : decode cL_law_ 760 = .ok (.aload_n 2, 1) := by decide +kernel
theorem dL_law__761 : decode cL_law_ 761 = .ok (.invokevirtual 136, 3) := by decide +kernel
theorem dL_law__764 : decode cL_law_ 764 = .ok (.iload 5, 2) := by decide +kernel
theorem dL_law__766 : decode cL_law_ 766 = .ok (.if_icmp .eq 5, 3) := by decide +kernel
theorem dL_law__771 : decode cL_law_ 771 = .ok (.iload 5, 2) := by decide +kernel
theorem dL_law__773 : decode cL_law_ 773 = .ok (.ifCond .ne 15, 3) := by decide +kernel
theorem dL_law__776 : decode cL_law_ 776 = .ok (.aload_n 3, 1) := by decide +kernel
theorem dL_law__777 : decode cL_law_ 777 = .ok (.iconst 0, 1) := by decide +kernel
theorem dL_law__778 : decode cL_law_ 778 = .ok (.laload, 1) := by decide +kernel
theorem dL_law__779 : decode cL_law_ 779 = .ok (.iload 6, 2) := by decide +kernel
theorem dL_law__781 : decode cL_law_ 781 = .ok (.i2l, 1) := by decide +kernel
theorem dL_law__782 : decode cL_law_ 782 = .ok (.lcmp, 1) := by decide +kernel
theorem dL_law__783 : decode cL_law_ 783 = .ok (.ifCond .eq 5, 3) := by decide +kernel
theorem dL_law__788 : decode cL_law_ 788 = .ok (.goto 1967, 3) := by decide +kernel
theorem dL_law__791 : decode cL_law_ 791 = .ok (.aload_n 1, 1) := by decide +kernel
theorem dL_law__792 : decode cL_law_ 792 = .ok (.aload_n 0, 1) := by decide +kernel
theorem dL_law__793 : decode cL_law_ 793 = .ok (.iload 4, 2) := by decide +kernel
theorem dL_law__795 : decode cL_law_ 795 = .ok (.iconst 1, 1) := by decide +kernel
theorem dL_law__796 : decode cL_law_ 796 = .ok (.iadd, 1) := by decide +kernel
theorem dL_law__797 : decode cL_law_ 797 = .ok (.iaload, 1) := by decide +kernel
theorem dL_law__798 : decode cL_law_ 798 = .ok (.aload_n 0, 1) := by decide +kernel
theorem dL_law__799 : decode cL_law_ 799 = .ok (.iload 4, 2) := by decide +kernel
theorem dL_law__801 : decode cL_law_ 801 = .ok (.iconst 2, 1) := by decide +kernel
theorem dL_law__802 : decode cL_law_ 802 = .ok (.iadd, 1) := by decide +kernel
theorem dL_law__803 : decode cL_law_ 803 = .ok (.iaload, 1) := by decide +kernel
theorem dL_law__804 : decode cL_law_ 804 = .ok (.aload_n 3, 1) := by decide +kernel
theorem dL_law__805 : decode cL_law_ 805 = .ok (.invokestatic 162, 3) := by decide +kernel
theorem dL_law__808 : decode cL_law_ 808 = .ok (.istore 5, 2) := by decide +kernel
theorem dL_law__810 : decode cL_law_ 810 = .ok (.aload_n 2, 1) := by decide +kernel
theorem dL_law__811 : decode cL_law_ 811 = .ok (.aload_n 0, 1) := by decide +kernel
theorem dL_law__812 : decode cL_law_ 812 = .ok (.iload 4, 2) := by decide +kernel
theorem dL_law__814 : decode cL_law_ 814 = .ok (.iconst 1, 1) := by decide +kernel
theorem dL_law__815 : decode cL_law_ 815 = .ok (.iadd, 1) := by decide +kernel
theorem dL_law__816 : decode cL_law_ 816 = .ok (.iaload, 1) := by decide +kernel
theorem dL_law__817 : decode cL_law_ 817 = .ok (.aload_n 0, 1) := by decide +kernel
theorem dL_law__818 : decode cL_law_ 818 = .ok (.iload 4, 2) := by decide +kernel
theorem dL_law__820 : decode cL_law_ 820 = .ok (.iconst 2, 1) := by decide +kernel
theorem dL_law__821 : decode cL_law_ 821 = .ok (.iadd, 1) := by decide +kernel
theorem dL_law__822 : decode cL_law_ 822 = .ok (.iaload, 1) := by decide +kernel
theorem dL_law__823 : decode cL_law_ 823 = .ok (.invokevirtual 164, 3) := by decide +kernel
theorem dL_law__826 : decode cL_law_ 826 = .ok (.istore 6, 2) := by decide +kernel
theorem dL_law__828 : decode cL_law_ 828 = .ok (.aload_n 2, 1) := by decide +kernel
theorem dL_law__829 : decode cL_law_ 829 = .ok (.invokevirtual 136, 3) := by decide +kernel
theorem dL_law__832 : decode cL_law_ 832 = .ok (.iload 5, 2) := by decide +kernel
theorem dL_law__834 : decode cL_law_ 834 = .ok (.if_icmp .eq 5, 3) := by decide +kernel
theorem dL_law__839 : decode cL_law_ 839 = .ok (.iload 5, 2) := by decide +kernel
theorem dL_law__841 : decode cL_law_ 841 = .ok (.ifCond .ne 15, 3) := by decide +kernel
theorem dL_law__844 : decode cL_law_ 844 = .ok (.aload_n 3, 1) := by decide +kernel
theorem dL_law__845 : decode cL_law_ 845 = .ok (.iconst 0, 1) := by decide +kernel
theorem dL_law__846 : decode cL_law_ 846 = .ok (.laload, 1) := by decide +kernel
theorem dL_law__847 : decode cL_law_ 847 = .ok (.iload 6, 2) := by decide +kernel
theorem dL_law__849 : decode cL_law_ 849 = .ok (.i2l, 1) := by decide +kernel
theorem dL_law__850 : decode cL_law_ 850 = .ok (.lcmp, 1) := by decide +kernel
theorem dL_law__851 : decode cL_law_ 851 = .ok (.ifCond .eq 5, 3) := by decide +kernel
theorem dL_law__856 : decode cL_law_ 856 = .ok (.goto 1899, 3) := by decide +kernel
theorem dL_law__859 : decode cL_law_ 859 = .ok (.aload_n 1, 1) := by decide +kernel
theorem dL_law__860 : decode cL_law_ 860 = .ok (.aload_n 0, 1) := by decide +kernel
theorem dL_law__861 : decode cL_law_ 861 = .ok (.iload 4, 2) := by decide +kernel
theorem dL_law__863 : decode cL_law_ 863 = .ok (.iconst 1, 1) := by decide +kernel
theorem dL_law__864 : decode cL_law_ 864 = .ok (.iadd, 1) := by decide +kernel
theorem dL_law__865 : decode cL_law_ 865 = .ok (.iaload, 1) := by decide +kernel
theorem dL_law__866 : decode cL_law_ 866 = .ok (.aload_n 0, 1) := by decide +kernel
theorem dL_law__867 : decode cL_law_ 867 = .ok (.iload 4, 2) := by decide +kernel
theorem dL_law__869 : decode cL_law_ 869 = .ok (.iconst 2, 1) := by decide +kernel
theorem dL_law__870 : decode cL_law_ 870 = .ok (.iadd, 1) := by decide +kernel
theorem dL_law__871 : decode cL_law_ 871 = .ok (.iaload, 1) := by decide +kernel
theorem dL_law__872 : decode cL_law_ 872 = .ok (.aload_n 0, 1) := by decide +kernel
theorem dL_law__873 : decode cL_law_ 873 = .ok (.iload 4, 2) := by decide +kernel
theorem dL_law__875 : decode cL_law_ 875 = .ok (.iconst 3, 1) := by decide +kernel
theorem dL_law__876 : decode cL_law_ 876 = .ok (.iadd, 1) := by decide +kernel
theorem dL_law__877 : decode cL_law_ 877 = .ok (.iaload, 1) := by decide +kernel
theorem dL_law__878 : decode cL_law_ 878 = .ok (.aload_n 3, 1) := by decide +kernel
theorem dL_law__879 : decode cL_law_ 879 = .ok (.invokestatic 165, 3) := by decide +kernel
theorem dL_law__882 : decode cL_law_ 882 = .ok (.istore 5, 2) := by decide +kernel
theorem dL_law__884 : decode cL_law_ 884 = .ok (.aload_n 2, 1) := by decide +kernel
theorem dL_law__885 : decode cL_law_ 885 = .ok (.aload_n 0, 1) := by decide +kernel
theorem dL_law__886 : decode cL_law_ 886 = .ok (.iload 4, 2) := by decide +kernel
theorem dL_law__888 : decode cL_law_ 888 = .ok (.iconst 1, 1) := by decide +kernel
theorem dL_law__889 : decode cL_law_ 889 = .ok (.iadd, 1) := by decide +kernel
theorem dL_law__890 : decode cL_law_ 890 = .ok (.iaload, 1) := by decide +kernel
theorem dL_law__891 : decode cL_law_ 891 = .ok (.aload_n 0, 1) := by decide +kernel
theorem dL_law__892 : decode cL_law_ 892 = .ok (.iload 4, 2) := by decide +kernel
theorem dL_law__894 : decode cL_law_ 894 = .ok (.iconst 2, 1) := by decide +kernel
theorem dL_law__895 : decode cL_law_ 895 = .ok (.iadd, 1) := by decide +kernel
theorem dL_law__896 : decode cL_law_ 896 = .ok (.iaload, 1) := by decide +kernel
theorem dL_law__897 : decode cL_law_ 897 = .ok (.aload_n 0, 1) := by decide +kernel
theorem dL_law__898 : decode cL_law_ 898 = .ok (.iload 4, 2) := by decide +kernel
theorem dL_law__900 : decode cL_law_ 900 = .ok (.iconst 3, 1) := by decide +kernel
theorem dL_law__901 : decode cL_law_ 901 = .ok (.iadd, 1) := by decide +kernel
theorem dL_law__902 : decode cL_law_ 902 = .ok (.iaload, 1) := by decide +kernel
theorem dL_law__903 : decode cL_law_ 903 = .ok (.invokevirtual 168, 3) := by decide +kernel
theorem dL_law__906 : decode cL_law_ 906 = .ok (.istore 6, 2) := by decide +kernel
theorem dL_law__908 : decode cL_law_ 908 = .ok (.aload_n 2, 1) := by decide +kernel
theorem dL_law__909 : decode cL_law_ 909 = .ok (.invokevirtual 136, 3) := by decide +kernel
theorem dL_law__912 : decode cL_law_ 912 = .ok (.iload 5, 2) := by decide +kernel
theorem dL_law__914 : decode cL_law_ 914 = .ok (.if_icmp .eq 5, 3) := by decide +kernel
theorem dL_law__919 : decode cL_law_ 919 = .ok (.iload 5, 2) := by decide +kernel
theorem dL_law__921 : decode cL_law_ 921 = .ok (.ifCond .ne 15, 3) := by decide +kernel
theorem dL_law__924 : decode cL_law_ 924 = .ok (.aload_n 3, 1) := by decide +kernel
theorem dL_law__925 : decode cL_law_ 925 = .ok (.iconst 0, 1) := by decide +kernel
theorem dL_law__926 : decode cL_law_ 926 = .ok (.laload, 1) := by decide +kernel
theorem dL_law__927 : decode cL_law_ 927 = .ok (.iload 6, 2) := by decide +kernel
theorem dL_law__929 : decode cL_law_ 929 = .ok (.i2l, 1) := by decide +kernel
theorem dL_law__930 : decode cL_law_ 930 = .ok (.lcmp, 1) := by decide +kernel
theorem dL_law__931 : decode cL_law_ 931 = .ok (.ifCond .eq 5, 3) := by decide +kernel
theorem dL_law__936 : decode cL_law_ 936 = .ok (.goto 1819, 3) := by decide +kernel
theorem dL_law__939 : decode cL_law_ 939 = .ok (.aload_n 1, 1) := by decide +kernel
theorem dL_law__940 : decode cL_law_ 940 = .ok (.aload_n 0, 1) := by decide +kernel
theorem dL_law__941 : decode cL_law_ 941 = .ok (.iload 4, 2) := by decide +kernel
theorem dL_law__943 : decode cL_law_ 943 = .ok (.iconst 1, 1) := by decide +kernel
theorem dL_law__944 : decode cL_law_ 944 = .ok (.iadd, 1) := by decide +kernel
theorem dL_law__945 : decode cL_law_ 945 = .ok (.iaload, 1) := by decide +kernel
theorem dL_law__946 : decode cL_law_ 946 = .ok (.aload_n 0, 1) := by decide +kernel
theorem dL_law__947 : decode cL_law_ 947 = .ok (.iload 4, 2) := by decide +kernel
theorem dL_law__949 : decode cL_law_ 949 = .ok (.iconst 2, 1) := by decide +kernel
theorem dL_law__950 : decode cL_law_ 950 = .ok (.iadd, 1) := by decide +kernel
theorem dL_law__951 : decode cL_law_ 951 = .ok (.iaload, 1) := by decide +kernel
