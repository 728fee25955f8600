theorem dX8_init_661 : decode cX8_init 661 = .ok (.dup, 1) := by decide +kernel
theorem dX8_init_662 : decode cX8_init 662 = .ok (.bipush 31, 2) := by decide +kernel
theorem dX8_init_664 : decode cX8_init 664 = .ok (.bipush 32, 2) := by decide +kernel
theorem dX8_init_666 : decode cX8_init 666 = .ok (.iastore, 1) := by decide +kernel
theorem dX8_init_667 : decode cX8_init 667 = .ok (.dup, 1) := by decide +kernel
theorem dX8_init_668 : decode cX8_init 668 = .ok (.bipush 32, 2) := by decide +kernel
theorem dX8_init_670 : decode cX8_init 670 = .ok (.bipush 104, 2) := by decide +kernel
theorem dX8_init_672 : decode cX8_init 672 = .ok (.iastore, 1) := by decide +kernel
theorem dX8_init_673 : decode cX8_init 673 = .ok (.dup, 1) := by decide +kernel
theorem dX8_init_674 : decode cX8_init 674 = .ok (.bipush 33, 2) := by decide +kernel
theorem dX8_init_676 : decode cX8_init 676 = .ok (.bipush 117, 2) := by decide +kernel
theorem dX8_init_678 : decode cX8_init 678 = .ok (.iastore, 1) := by decide +kernel
theorem dX8_init_679 : decode cX8_init 679 = .ok (.dup, 1) := by decide +kernel
theorem dX8_init_680 : decode cX8_init 680 = .ok (.bipush 34, 2) := by decide +kernel
theorem dX8_init_682 : decode cX8_init 682 = .ok (.bipush 109, 2) := by decide +kernel
theorem dX8_init_684 : decode cX8_init 684 = .ok (.iastore, 1) := by decide +kernel
theorem dX8_init_685 : decode cX8_init 685 = .ok (.dup, 1) := by decide +kernel
theorem dX8_init_686 : decode cX8_init 686 = .ok (.bipush 35, 2) := by decide +kernel
theorem dX8_init_688 : decode cX8_init 688 = .ok (.bipush 111, 2) := by decide +kernel
theorem dX8_init_690 : decode cX8_init 690 = .ok (.iastore, 1) := by decide +kernel
theorem dX8_init_691 : decode cX8_init 691 = .ok (.dup, 1) := by decide +kernel
theorem dX8_init_692 : decode cX8_init 692 = .ok (.bipush 36, 2) := by decide +kernel
theorem dX8_init_694 : decode cX8_init 694 = .ok (.bipush 117, 2) := by decide +kernel
theorem dX8_init_696 : decode cX8_init 696 = .ok (.iastore, 1) := by decide +kernel
theorem dX8_init_697 : decode cX8_init 697 = .ok (.dup, 1) := by decide +kernel
theorem dX8_init_698 : decode cX8_init 698 = .ok (.bipush 37, 2) := by decide +kernel
theorem dX8_init_700 : decode cX8_init 700 = .ok (.bipush 114, 2) := by decide +kernel
theorem dX8_init_702 : decode cX8_init 702 = .ok (.iastore, 1) := by decide +kernel
theorem dX8_init_703 : decode cX8_init 703 = .ok (.dup, 1) := by decide +kernel
theorem dX8_init_704 : decode cX8_init 704 = .ok (.bipush 38, 2) := by decide +kernel
theorem dX8_init_706 : decode cX8_init 706 = .ok (.bipush 32, 2) := by decide +kernel
theorem dX8_init_708 : decode cX8_init 708 = .ok (.iastore, 1) := by decide +kernel
theorem dX8_init_709 : decode cX8_init 709 = .ok (.dup, 1) := by decide +kernel
theorem dX8_init_710 : decode cX8_init 710 = .ok (.bipush 39, 2) := by decide +kernel
theorem dX8_init_712 : decode cX8_init 712 = .ok (.bipush 32, 2) := by decide +kernel
theorem dX8_init_714 : decode cX8_init 714 = .ok (.iastore, 1) := by decide +kernel
theorem dX8_init_715 : decode cX8_init 715 = .ok (.dup, 1) := by decide +kernel
theorem dX8_init_716 : decode cX8_init 716 = .ok (.bipush 40, 2) := by decide +kernel
theorem dX8_init_718 : decode cX8_init 718 = .ok (.bipush 109, 2) := by decide +kernel
theorem dX8_init_720 : decode cX8_init 720 = .ok (.iastore, 1) := by decide +kernel
theorem dX8_init_721 : decode cX8_init 721 = .ok (.dup, 1) := by decide +kernel
theorem dX8_init_722 : decode cX8_init 722 = .ok (.bipush 41, 2) := by decide +kernel
theorem dX8_init_724 : decode cX8_init 724 = .ok (.bipush 111, 2) := by decide +kernel
theorem dX8_init_726 : decode cX8_init 726 = .ok (.iastore, 1) := by decide +kernel
theorem dX8_init_727 : decode cX8_init 727 = .ok (.dup, 1) := by decide +kernel
theorem dX8_init_728 : decode cX8_init 728 = .ok (.bipush 42, 2) := by decide +kernel
theorem dX8_init_730 : decode cX8_init 730 = .ok (.bipush 114, 2) := by decide +kernel
theorem dX8_init_732 : decode cX8_init 732 = .ok (.iastore, 1) := by decide +kernel
theorem dX8_init_733 : decode cX8_init 733 = .ok (.dup, 1) := by decide +kernel
theorem dX8_init_734 : decode cX8_init 734 = .ok (.bipush 43, 2) := by decide +kernel
theorem dX8_init_736 : decode cX8_init 736 = .ok (.bipush 101, 2) := by decide +kernel
theorem dX8_init_738 : decode cX8_init 738 = .ok (.iastore, 1) := by decide +kernel
theorem dX8_init_739 : decode cX8_init 739 = .ok (.dup, 1) := by decide +kernel
theorem dX8_init_740 : decode cX8_init 740 = .ok (.bipush 44, 2) := by decide +kernel
theorem dX8_init_742 : decode cX8_init 742 = .ok (.bipush 32, 2) := by decide +kernel
theorem dX8_init_744 : decode cX8_init 744 = .ok (.iastore, 1) := by decide +kernel
theorem dX8_init_745 : decode cX8_init 745 = .ok (.dup, 1) := by decide +kernel
theorem dX8_init_746 : decode cX8_init 746 = .ok (.bipush 45, 2) := by decide +kernel
theorem dX8_init_748 : decode cX8_init 748 = .ok (.bipush 32, 2) := by decide +kernel
theorem dX8_init_750 : decode cX8_init 750 = .ok (.iastore, 1) := by decide +kernel
theorem dX8_init_751 : decode cX8_init 751 = .ok (.dup, 1) := by decide +kernel
theorem dX8_init_752 : decode cX8_init 752 = .ok (.bipush 46, 2) := by decide +kernel
theorem dX8_init_754 : decode cX8_init 754 = .ok (.bipush 32, 2) := by decide +kernel
theorem dX8_init_756 : decode cX8_init 756 = .ok (.iastore, 1) := by decide +kernel
theorem dX8_init_757 : decode cX8_init 757 = .ok (.dup, 1) := by decide +kernel
theorem dX8_init_758 : decode cX8_init 758 = .ok (.bipush 47, 2) := by decide +kernel
theorem dX8_init_760 : decode cX8_init 760 = .ok (.bipush 32, 2) := by decide +kernel
theorem dX8_init_762 : decode cX8_init 762 = .ok (.iastore, 1) := by decide +kernel
theorem dX8_init_763 : decode cX8_init 763 = .ok (.dup, 1) := by decide +kernel
theorem dX8_init_764 : decode cX8_init 764 = .ok (.bipush 48, 2) := by decide +kernel
theorem dX8_init_766 : decode cX8_init 766 = .ok (.bipush 100, 2) := by decide +kernel
theorem dX8_init_768 : decode cX8_init 768 = .ok (.iastore, 1) := by decide +kernel
theorem dX8_init_769 : decode cX8_init 769 = .ok (.dup, 1) := by decide +kernel
theorem dX8_init_770 : decode cX8_init 770 = .ok (.bipush 49, 2) := by decide +kernel
theorem dX8_init_772 : decode cX8_init 772 = .ok (.bipush 97, 2) := by decide +kernel
theorem dX8_init_774 : decode cX8_init 774 = .ok (.iastore, 1) := by decide +kernel
theorem dX8_init_775 : decode cX8_init 775 = .ok (.dup, 1) := by decide +kernel
theorem dX8_init_776 : decode cX8_init 776 = .ok (.bipush 50, 2) := by decide +kernel
theorem dX8_init_778 : decode cX8_init 778 = .ok (.bipush 121, 2) := by decide +kernel
theorem dX8_init_780 : decode cX8_init 780 = .ok (.iastore, 1) := by decide +kernel
theorem dX8_init_781 : decode cX8_init 781 = .ok (.dup, 1) := by decide +kernel
theorem dX8_init_782 : decode cX8_init 782 = .ok (.bipush 51, 2) := by decide +kernel
theorem dX8_init_784 : decode cX8_init 784 = .ok (.bipush 32, 2) := by decide +kernel
theorem dX8_init_786 : decode cX8_init 786 = .ok (.iastore, 1) := by decide +kernel
theorem dX8_init_787 : decode cX8_init 787 = .ok (.dup, 1) := by decide +kernel
theorem dX8_init_788 : decode cX8_init 788 = .ok (.bipush 52, 2) := by decide +kernel
theorem dX8_init_790 : decode cX8_init 790 = .ok (.bipush 32, 2) := by decide +kernel
theorem dX8_init_792 : decode cX8_init 792 = .ok (.iastore, 1) := by decide +kernel
theorem dX8_init_793 : decode cX8_init 793 = .ok (.dup, 1) := by decide +kernel
theorem dX8_init_794 : decode cX8_init 794 = .ok (.bipush 53, 2) := by decide +kernel
theorem dX8_init_796 : decode cX8_init 796 = .ok (.bipush 32, 2) := by decide +kernel
theorem dX8_init_798 : decode cX8_init 798 = .ok (.iastore, 1) := by decide +kernel
theorem dX8_init_799 : decode cX8_init 799 = .ok (.dup, 1) := by decide +kernel
theorem dX8_init_800 : decode cX8_init 800 = .ok (.bipush 54, 2) := by decide +kernel
theorem dX8_init_802 : decode cX8_init 802 = .ok (.bipush 32, 2) := by decide +kernel
theorem dX8_init_804 : decode cX8_init 804 = .ok (.iastore, 1) := by decide +kernel
theorem dX8_init_805 : decode cX8_init 805 = .ok (.dup, 1) := by decide +kernel
theorem dX8_init_806 : decode cX8_init 806 = .ok (.bipush 55, 2) := by decide +kernel
theorem dX8_init_808 : decode cX8_init 808 = .ok (.bipush 32, 2) := by decide +kernel
theorem dX8_init_810 : decode cX8_init 810 = .ok (.iastore, 1) := by decide +kernel
theorem dX8_init_811 : decode cX8_init 811 = .ok (.dup, 1) := by decide +kernel
theorem dX8_init_812 : decode cX8_init 812 = .ok (.bipush 56, 2) := by decide +kernel
theorem dX8_init_814 : decode cX8_init 814 = .ok (.bipush 112, 2) := by decide +kernel
theorem dX8_init_816 : decode cX8_init 816 = .ok (.iastore, 1) := by decide +kernel
theorem dX8_init_817 : decode cX8_init 817 = .ok (.dup, 1) := by decide +kernel
theorem dX8_init_818 : decode cX8_init 818 = .ok (.bipush 57, 2) := by decide +kernel
theorem dX8_init_820 : decode cX8_init 820 = .ok (.bipush 117, 2) := by decide +kernel
theorem dX8_init_822 : decode cX8_init 822 = .ok (.iastore, 1) := by decide +kernel
theorem dX8_init_823 : decode cX8_init 823 = .ok (.dup, 1) := by decide +kernel
theorem dX8_init_824 : decode cX8_init 824 = .ok (.bipush 58, 2) := by decide +kernel
theorem dX8_init_826 : decode cX8_init 826 = .ok (.bipush 114, 2) := by decide +kernel
theorem dX8_init_828 : decode cX8_init 828 = .ok (.iastore, 1) := by decide +kernel
theorem dX8_init_829 : decode cX8_init 829 = .ok (.dup, 1) := by decide +kernel
theorem dX8_init_830 : decode cX8_init 830 = .ok (.bipush 59, 2) := by decide +kernel
theorem dX8_init_832 : decode cX8_init 832 = .ok (.bipush 115, 2) := by decide +kernel
theorem dX8_init_834 : decode cX8_init 834 = .ok (.iastore, 1) := by decide +kernel
theorem dX8_init_835 : decode cX8_init 835 = .ok (.dup, 1) := by decide +kernel
theorem dX8_init_836 : decode cX8_init 836 = .ok (.bipush 60, 2) := by decide +kernel
theorem dX8_init_838 : decode cX8_init 838 = .ok (.bipush 101, 2) := by decide +kernel
theorem dX8_init_840 : decode cX8_init 840 = .ok (.iastore, 1) := by decide +kernel
theorem dX8_init_841 : decode cX8_init 841 = .ok (.dup, 1) := by decide +kernel
theorem dX8_init_842 : decode cX8_init 842 = .ok (.bipush 61, 2) := by decide +kernel
theorem dX8_init_844 : decode cX8_init 844 = .ok (.bipush 32, 2) := by decide +kernel
theorem dX8_init_846 : decode cX8_init 846 = .ok (.iastore, 1) := by decide +kernel
theorem dX8_init_847 : decode cX8_init 847 = .ok (.dup, 1) := by decide +kernel
theorem dX8_init_848 : decode cX8_init 848 = .ok (.bipush 62, 2) := by decide +kernel
theorem dX8_init_850 : decode cX8_init 850 = .ok (.bipush 32, 2) := by decide +kernel
theorem dX8_init_852 : decode cX8_init 852 = .ok (.iastore, 1) := by decide +kernel
theorem dX8_init_853 : decode cX8_init 853 = .ok (.dup, 1) := by decide +kernel
theorem dX8_init_854 : decode cX8_init 854 = .ok (.bipush 63, 2) := by decide +kernel
theorem dX8_init_856 : decode cX8_init 856 = .ok (.bipush 32, 2) := by decide +kernel
theorem dX8_init_858 : decode cX8_init 858 = .ok (.iastore, 1) := by decide +kernel
theorem dX8_init_859 : decode cX8_init 859 = .ok (.dup, 1) := by decide +kernel
theorem dX8_init_860 : decode cX8_init 860 = .ok (.bipush 64, 2) := by decide +kernel
theorem dX8_init_862 : decode cX8_init 862 = .ok (.bipush 104, 2) := by decide +kernel
theorem dX8_init_864 : decode cX8_init 864 = .ok (.iastore, 1) := by decide +kernel
theorem dX8_init_865 : decode cX8_init 865 = .ok (.dup, 1) := by decide +kernel
theorem dX8_init_866 : decode cX8_init 866 = .ok (.bipush 65, 2) := by decide +kernel
theorem dX8_init_868 : decode cX8_init 868 = .ok (.bipush 101, 2) := by decide +kernel
theorem dX8_init_870 : decode cX8_init 870 = .ok (.iastore, 1) := by decide +kernel
theorem dX8_init_871 : decode cX8_init 871 = .ok (.dup, 1) := by decide +kernel
theorem dX8_init_872 : decode cX8_init 872 = .ok (.bipush 66, 2) := by decide +kernel
theorem dX8_init_874 : decode cX8_init 874 = .ok (.bipush 97, 2) := by decide +kernel
theorem dX8_init_876 : decode cX8_init 876 = .ok (.iastore, 1) := by decide +kernel
theorem dX8_init_877 : decode cX8_init 877 = .ok (.dup, 1) := by decide +kernel
theorem dX8_init_878 : decode cX8_init 878 = .ok (.bipush 67, 2) := by decide +kernel
theorem dX8_init_880 : decode cX8_init 880 = .ok (.bipush 114, 2) := by decide +kernel
theorem dX8_init_882 : decode cX8_init 882 = .ok (.iastore, 1) := by decide +kernel
theorem dX8_init_883 : decode cX8_init 883 = .ok (.dup, 1) := by decide +kernel
theorem dX8_init_884 : decode cX8_init 884 = .ok (.bipush 68, 2) := by decide +kernel
theorem dX8_init_886 : decode cX8_init 886 = .ok (.bipush 101, 2) := by decide +kernel
theorem dX8_init_888 : decode cX8_init 888 = .ok (.iastore, 1) := by decide +kernel
theorem dX8_init_889 : decode cX8_init 889 = .ok (.dup, 1) := by decide +kernel
theorem dX8_init_890 : decode cX8_init 890 = .ok (.bipush 69, 2) := by decide +kernel
theorem dX8_init_892 : decode cX8_init 892 = .ok (.bipush 114, 2) := by decide +kernel
theorem dX8_init_894 : decode cX8_init 894 = .ok (.iastore, 1) := by decide +kernel
theorem dX8_init_895 : decode cX8_init 895 = .ok (.dup, 1) := by decide +kernel
theorem dX8_init_896 : decode cX8_init 896 = .ok (.bipush 70, 2) := by decide +kernel
theorem dX8_init_898 : decode cX8_init 898 = .ok (.bipush 32, 2) := by decide +kernel
theorem dX8_init_900 : decode cX8_init 900 = .ok (.iastore, 1) := by decide +kernel
theorem dX8_init_901 : decode cX8_init 901 = .ok (.dup, 1) := by decide +kernel
theorem dX8_init_902 : decode cX8_init 902 = .ok (.bipush 71, 2) := by decide +kernel
theorem dX8_init_904 : decode cX8_init 904 = .ok (.bipush 32, 2) := by decide +kernel
theorem dX8_init_906 : decode cX8_init 906 = .ok (.iastore, 1) := by decide +kernel
theorem dX8_init_907 : decode cX8_init 907 = .ok (.dup, 1) := by decide +kernel
theorem dX8_init_908 : decode cX8_init 908 = .ok (.bipush 72, 2) := by decide +kernel
theorem dX8_init_910 : decode cX8_init 910 = .ok (.bipush 111, 2) := by decide +kernel
theorem dX8_init_912 : decode cX8_init 912 = .ok (.iastore, 1) := by decide +kernel
theorem dX8_init_913 : decode cX8_init 913 = .ok (.dup, 1) := by decide +kernel
theorem dX8_init_914 : decode cX8_init 914 = .ok (.bipush 73, 2) := by decide +kernel
theorem dX8_init_916 : decode cX8_init 916 = .ok (.bipush 114, 2) := by decide +kernel
theorem dX8_init_918 : decode cX8_init 918 = .ok (.iastore, 1) := by decide +kernel
theorem dX8_init_919 : decode cX8_init 919 = .ok (.dup, 1) := by decide +kernel
theorem dX8_init_920 : decode cX8_init 920 = .ok (.bipush 74, 2) := by decide +kernel
theorem dX8_init_922 : decode cX8_init 922 = .ok (.bipush 32, 2) := by decide +kernel
theorem dX8_init_924 : decode cX8_init 924 = .ok (.iastore, 1) := by decide +kernel
theorem dX8_init_925 : decode cX8_init 925 = .ok (.dup, 1) := by decide +kernel
theorem dX8_init_926 : decode cX8_init 926 = .ok (.bipush 75, 2) := by decide +kernel
theorem dX8_init_928 : decode cX8_init 928 = .ok (.bipush 32, 2) := by decide +kernel
theorem dX8_init_930 : decode cX8_init 930 = .ok (.iastore, 1) := by decide +kernel
theorem dX8_init_931 : decode cX8_init 931 = .ok (.dup, 1) := by decide +kernel
theorem dX8_init_932 : decode cX8_init 932 = .ok (.bipush 76, 2) := by decide +kernel
theorem dX8_init_934 : decode cX8_init 934 = .ok (.bipush 32, 2) := by decide +kernel
theorem dX8_init_936 : decode cX8_init 936 = .ok (.iastore, 1) := by decide +kernel
theorem dX8_init_937 : decode cX8_init 937 = .ok (.dup, 1) := by decide +kernel
theorem dX8_init_938 : decode cX8_init 938 = .ok (.bipush 77, 2) := by decide +kernel
theorem dX8_init_940 : decode cX8_init 940 = .ok (.bipush 32, 2) := by decide +kernel
theorem dX8_init_942 : decode cX8_init 942 = .ok (.iastore, 1) := by decide +kernel
theorem dX8_init_943 : decode cX8_init 943 = .ok (.dup, 1) := by decide +kernel
theorem dX8_init_944 : decode cX8_init 944 = .ok (.bipush 78, 2) := by decide +kernel
theorem dX8_init_946 : decode cX8_init 946 = .ok (.bipush 32, 2) := by decide +kernel
theorem dX8_init_948 : decode cX8_init 948 = .ok (.iastore, 1) := by decide +kernel
theorem dX8_init_949 : decode cX8_init 949 = .ok (.dup, 1) := by decide +kernel
theorem dX8_init_950 : decode cX8_init 950 = .ok (.bipush 79, 2) := by decide +kernel
theorem dX8_init_952 : decode cX8_init 952 = .ok (.bipush 32, 2) := by decide +kernel
theorem dX8_init_954 : decode cX8_init 954 = .ok (.iastore, 1) := by decide +kernel
theorem dX8_init_955 : decode cX8_init 955 = .ok (.dup, 1) := by decide +kernel
theorem dX8_init_956 : decode cX8_init 956 = .ok (.bipush 80, 2) := by decide +kernel
theorem dX8_init_958 : decode cX8_init 958 = .ok (.bipush 97, 2) := by decide +kernel
theorem dX8_init_960 : decode cX8_init 960 = .ok (.iastore, 1) := by decide +kernel
theorem dX8_init_961 : decode cX8_init 961 = .ok (.dup, 1) := by decide +kernel
theorem dX8_init_962 : decode cX8_init 962 = .ok (.bipush 81, 2) := by decide +kernel
theorem dX8_init_964 : decode cX8_init 964 = .ok (.bipush 110, 2) := by decide +kernel
theorem dX8_init_966 : decode cX8_init 966 = .ok (.iastore, 1) := by decide +kernel
theorem dX8_init_967 : decode cX8_init 967 = .ok (.dup, 1) := by decide +kernel
theorem dX8_init_968 : decode cX8_init 968 = .ok (.bipush 82, 2) := by decide +kernel
theorem dX8_init_970 : decode cX8_init 970 = .ok (.bipush 100, 2) := by decide +kernel
theorem dX8_init_972 : decode cX8_init 972 = .ok (.iastore, 1) := by decide +kernel
theorem dX8_init_973 : decode cX8_init 973 = .ok (.dup, 1) := by decide +kernel
theorem dX8_init_974 : decode cX8_init 974 = .ok (.bipush 83, 2) := by decide +kernel
theorem dX8_init_976 : decode cX8_init 976 = .ok (.bipush 32, 2) := by decide +kernel
theorem dX8_init_978 : decode cX8_init 978 = .ok (.iastore, 1) := by decide +kernel
theorem dX8_init_979 : decode cX8_init 979 = .ok (.dup, 1) := by decide +kernel
theorem dX8_init_980 : decode cX8_init 980 = .ok (.bipush 84, 2) := by decide +kernel
theorem dX8_init_982 : decode cX8_init 982 = .ok (.bipush 32, 2) := by decide +kernel
theorem dX8_init_984 : decode cX8_init 984 = .ok (.iastore, 1) := by decide +kernel
theorem dX8_init_985 : decode cX8_init 985 = .ok (.dup, 1) := by decide +kernel
theorem dX8_init_986 : decode cX8_init 986 = .ok (.bipush 85, 2) := by decide +kernel
theorem dX8_init_988 : decode cX8_init 988 = .ok (.bipush 32, 2) := by decide +kernel
theorem dX8_init_990 : decode cX8_init 990 = .ok (.iastore, 1) := by decide +kernel
theorem dX8_init_991 : decode cX8_init 991 = .ok (.dup, 1) := by decide +kernel
theorem dX8_init_992 : decode cX8_init 992 = .ok (.bipush 86, 2) := by decide +kernel
theorem dX8_init_994 : decode cX8_init 994 = .ok (.bipush 32, 2) := by decide +kernel
theorem dX8_init_996 : decode cX8_init 996 = .ok (.iastore, 1) := by decide +kernel
theorem dX8_init_997 : decode cX8_init 997 = .ok (.dup, 1) := by decide +kernel
theorem dX8_init_998 : decode cX8_init 998 = .ok (.bipush 87, 2) := by decide +kernel
theorem dX8_init_1000 : decode cX8_init 1000 = .ok (.bipush 32, 2) := by decide +kernel
theorem dX8_init_1002 : decode cX8_init 1002 = .ok (.iastore, 1) := by decide +kernel
theorem dX8_init_1003 : decode cX8_init 1003 = .ok (.dup, 1) := by decide +kernel
theorem dX8_init_1004 : decode cX8_init 1004 = .ok (.bipush 88, 2) := by decide +kernel
theorem dX8_init_1006 : decode cX8_init 1006 = .ok (.bipush 110, 2) := by decide +kernel
theorem dX8_init_1008 : decode cX8_init 1008 = .ok (.iastore, 1) := by decide +kernel
theorem dX8_init_1009 : decode cX8_init 1009 = .ok (.dup, 1) := by decide +kernel
theorem dX8_init_1010 : decode cX8_init 1010 = .ok (.bipush 89, 2) := by decide +kernel
theorem dX8_init_1012 : decode cX8_init 1012 = .ok (.bipush 111, 2) := by decide +kernel
theorem dX8_init_1014 : decode cX8_init 1014 = .ok (.iastore, 1) := by decide +kernel
theorem dX8_init_1015 : decode cX8_init 1015 = .ok (.dup, 1) := by decide +kernel
theorem dX8_init_1016 : decode cX8_init 1016 = .ok (.bipush 90, 2) := by decide +kernel
theorem dX8_init_1018 : decode cX8_init 1018 = .ok (.bipush 116, 2) := by decide +kernel
theorem dX8_init_1020 : decode cX8_init 1020 = .ok (.iastore, 1) := by decide +kernel
theorem dX8_init_1021 : decode cX8_init 1021 = .ok (.dup, 1) := by decide +kernel
theorem dX8_init_1022 : decode cX8_init 1022 = .ok (.bipush 91, 2) := by decide +kernel
theorem dX8_init_1024 : decode cX8_init 1024 = .ok (.bipush 32, 2) := by decide +kernel
theorem dX8_init_1026 : decode cX8_init 1026 = .ok (.iastore, 1) := by decide +kernel
theorem dX8_init_1027 : decode cX8_init 1027 = .ok (.dup, 1) := by decide +kernel
theorem dX8_init_1028 : decode cX8_init 1028 = .ok (.bipush 92, 2) := by decide +kernel
theorem dX8_init_1030 : decode cX8_init 1030 = .ok (.bipush 32, 2) := by decide +kernel
theorem dX8_init_1032 : decode cX8_init 1032 = .ok (.iastore, 1) := by decide +kernel
theorem dX8_init_1033 : decode cX8_init 1033 = .ok (.dup, 1) := by decide +kernel
theorem dX8_init_1034 : decode cX8_init 1034 = .ok (.bipush 93, 2) := by decide +kernel
theorem dX8_init_1036 : decode cX8_init 1036 = .ok (.bipush 32, 2) := by decide +kernel
theorem dX8_init_1038 : decode cX8_init 1038 = .ok (.iastore, 1) := by decide +kernel
theorem dX8_init_1039 : decode cX8_init 1039 = .ok (.dup, 1) := by decide +kernel
theorem dX8_init_1040 : decode cX8_init 1040 = .ok (.bipush 94, 2) := by decide +kernel
theorem dX8_init_1042 : decode cX8_init 1042 = .ok (.bipush 32, 2) := by decide +kernel
theorem dX8_init_1044 : decode cX8_init 1044 = .ok (.iastore, 1) := by decide +kernel
theorem dX8_init_1045 : decode cX8_init 1045 = .ok (.dup, 1) := by decide +kernel
theorem dX8_init_1046 : decode cX8_init 1046 = .ok (.bipush 95, 2) := by decide +kernel
theorem dX8_init_1048 : decode cX8_init 1048 = .ok (.bipush 32, 2) := by decide +kernel
theorem dX8_init_1050 : decode cX8_init 1050 = .ok (.iastore, 1) := by decide +kernel
theorem dX8_init_1051 : decode cX8_init 1051 = .ok (.putfield 49, 3) := by decide +kernel
theorem dX8_init_1054 : decode cX8_init 1054 = .ok (.aload_n 0, 1) := by decide +kernel
theorem dX8_init_1055 : decode cX8_init 1055 = .ok (.sipush 200, 3) := by decide +kernel
theorem dX8_init_1058 : decode cX8_init 1058 = .ok (.newarray .int, 2) := by decide +kernel
theorem dX8_init_1060 : decode cX8_init 1060 = .ok (.putfield 52, 3) := by decide +kernel
theorem dX8_init_1063 : decode cX8_init 1063 = .ok (.aload_n 0, 1) := by decide +kernel
theorem dX8_init_1064 : decode cX8_init 1064 = .ok (.sipush 200, 3) := by decide +kernel
theorem dX8_init_1067 : decode cX8_init 1067 = .ok (.newarray .int, 2) := by decide +kernel
theorem dX8_init_1069 : decode cX8_init 1069 = .ok (.putfield 55, 3) := by decide +kernel
theorem dX8_init_1072 : decode cX8_init 1072 = .ok (.aload_n 0, 1) := by decide +kernel
theorem dX8_init_1073 : decode cX8_init 1073 = .ok (.bipush 6, 2) := by decide +kernel
theorem dX8_init_1075 : decode cX8_init 1075 = .ok (.newarray .int, 2) := by decide +kernel
theorem dX8_init_1077 : decode cX8_init 1077 = .ok (.putfield 58, 3) := by decide +kernel
theorem dX8_init_1080 : decode cX8_init 1080 = .ok (.aload_n 0, 1) := by decide +kernel
theorem dX8_init_1081 : decode cX8_init 1081 = .ok (.sipush 500, 3) := by decide +kernel
theorem dX8_init_1084 : decode cX8_init 1084 = .ok (.newarray .int, 2) := by decide +kernel
theorem dX8_init_1086 : decode cX8_init 1086 = .ok (.putfield 61, 3) := by decide +kernel
theorem dX8_init_1089 : decode cX8_init 1089 = .ok (.aload_n 0, 1) := by decide +kernel
theorem dX8_init_1090 : decode cX8_init 1090 = .ok (.iconst 3, 1) := by decide +kernel
theorem dX8_init_1091 : decode cX8_init 1091 = .ok (.newarray .int, 2) := by decide +kernel
theorem dX8_init_1093 : decode cX8_init 1093 = .ok (.dup, 1) := by decide +kernel
theorem dX8_init_1094 : decode cX8_init 1094 = .ok (.iconst 0, 1) := by decide +kernel
theorem dX8_init_1095 : decode cX8_init 1095 = .ok (.iconst (-1), 1) := by decide +kernel
theorem dX8_init_1096 : decode cX8_init 1096 = .ok (.iastore, 1) := by decide +kernel
theorem dX8_init_1097 : decode cX8_init 1097 = .ok (.dup, 1) := by decide +kernel
theorem dX8_init_1098 : decode cX8_init 1098 = .ok (.iconst 1, 1) := by decide +kernel
theorem dX8_init_1099 : decode cX8_init 1099 = .ok (.iconst (-1), 1) := by decide +kernel
theorem dX8_init_1100 : decode cX8_init 1100 = .ok (.iastore, 1) := by decide +kernel
theorem dX8_init_1101 : decode cX8_init 1101 = .ok (.dup, 1) := by decide +kernel
theorem dX8_init_1102 : decode cX8_init 1102 = .ok (.iconst 2, 1) := by decide +kernel
theorem dX8_init_1103 : decode cX8_init 1103 = .ok (.iconst (-1), 1) := by decide +kernel
theorem dX8_init_1104 : decode cX8_init 1104 = .ok (.iastore, 1) := by decide +kernel
theorem dX8_init_1105 : decode cX8_init 1105 = .ok (.putfield 64, 3) := by decide +kernel
theorem dX8_init_1108 : decode cX8_init 1108 = .ok (.iconst 0, 1) := by decide +kernel
theorem dX8_init_1109 : decode cX8_init 1109 = .ok (.istore_n 1, 1) := by decide +kernel
theorem dX8_init_1110 : decode cX8_init 1110 = .ok (.iload_n 1, 1) := by decide +kernel
theorem dX8_init_1111 : decode cX8_init 1111 = .ok (.bipush 45, 2) := by decide +kernel
theorem dX8_init_1113 : decode cX8_init 1113 = .ok (.if_icmp .ge 21, 3) := by decide +kernel
theorem dX8_init_1116 : decode cX8_init 1116 = .ok (.aload_n 0, 1) := by decide +kernel
theorem dX8_init_1117 : decode cX8_init 1117 = .ok (.getfield 25, 3) := by decide +kernel
theorem dX8_init_1120 : decode cX8_init 1120 = .ok (.iload_n 1, 1) := by decide +kernel
theorem dX8_init_1121 : decode cX8_init 1121 = .ok (.aload_n 0, 1) := by decide +kernel
theorem dX8_init_1122 : decode cX8_init 1122 = .ok (.getfield 46, 3) := by decide +kernel
theorem dX8_init_1125 : decode cX8_init 1125 = .ok (.iload_n 1, 1) := by decide +kernel
theorem dX8_init_1126 : decode cX8_init 1126 = .ok (.iaload, 1) := by decide +kernel
theorem dX8_init_1127 : decode cX8_init 1127 = .ok (.iastore, 1) := by decide +kernel
theorem dX8_init_1128 : decode cX8_init 1128 = .ok (.iinc 1 1, 3) := by decide +kernel
theorem dX8_init_1131 : decode cX8_init 1131 = .ok (.goto (-21), 3) := by decide +kernel
theorem dX8_init_1134 : decode cX8_init 1134 = .ok (.aload_n 0, 1) := by decide +kernel
theorem dX8_init_1135 : decode cX8_init 1135 = .ok (.bipush 45, 2) := by decide +kernel
theorem dX8_init_1137 : decode cX8_init 1137 = .ok (.putfield 67, 3) := by decide +kernel
theorem dX8_init_1140 : decode cX8_init 1140 = .ok (.aload_n 0, 1) := by decide +kernel
theorem dX8_init_1141 : decode cX8_init 1141 = .ok (.invokevirtual 71, 3) := by decide +kernel
theorem dX8_init_1144 : decode cX8_init 1144 = .ok (.pop, 1) := by decide +kernel
theorem dX8_init_1145 : decode cX8_init 1145 = .ok (.return_, 1) := by decide +kernel
theorem dX8_in_0 : decode cX8_in 0 = .ok (.iload_n 0, 1) := by decide +kernel
theorem dX8_in_1 : decode cX8_in 1 = .ok (.iload_n 1, 1) := by decide +kernel
theorem dX8_in_2 : decode cX8_in 2 = .ok (.if_icmp .lt 12, 3) := by decide +kernel
theorem dX8_in_5 : decode cX8_in 5 = .ok (.iload_n 0, 1) := by decide +kernel
theorem dX8_in_6 : decode cX8_in 6 = .ok (.iload_n 2, 1) := by decide +kernel
theorem dX8_in_7 : decode cX8_in 7 = .ok (.if_icmp .gt 7, 3) := by decide +kernel
theorem dX8_in_10 : decode cX8_in 10 = .ok (.iconst 1, 1) := by decide +kernel
theorem dX8_in_11 : decode cX8_in 11 = .ok (.goto 4, 3) := by decide +kernel
theorem dX8_in_14 : decode cX8_in 14 = .ok (.iconst 0, 1) := by decide +kernel
theorem dX8_in_15 : decode cX8_in 15 = .ok (.ireturn, 1) := by decide +kernel
theorem dX8_within_0 : decode cX8_within 0 = .ok (.iload_n 0, 1) := by decide +kernel
theorem dX8_within_1 : decode cX8_within 1 = .ok (.iload_n 1, 1) := by decide +kernel
theorem dX8_within_2 : decode cX8_within 2 = .ok (.if_icmp .ge 7, 3) := by decide +kernel
theorem dX8_within_5 : decode cX8_within 5 = .ok (.iload_n 1, 1) := by decide +kernel
theorem dX8_within_6 : decode cX8_within 6 = .ok (.goto 13, 3) := by decide +kernel
theorem dX8_within_9 : decode cX8_within 9 = .ok (.iload_n 0, 1) := by decide +kernel
theorem dX8_within_10 : decode cX8_within 10 = .ok (.iload_n 2, 1) := by decide +kernel
theorem dX8_within_11 : decode cX8_within 11 = .ok (.if_icmp .le 7, 3) := by decide +kernel
theorem dX8_within_14 : decode cX8_within 14 = .ok (.iload_n 2, 1) := by decide +kernel
theorem dX8_within_15 : decode cX8_within 15 = .ok (.goto 4, 3) := by decide +kernel
theorem dX8_within_18 : decode cX8_within 18 = .ok (.iload_n 0, 1) := by decide +kernel
theorem dX8_within_19 : decode cX8_within 19 = .ok (.ireturn, 1) := by decide +kernel
theorem dX8_ones_0 : decode cX8_ones 0 = .ok (.iconst 0, 1) := by decide +kernel
theorem dX8_ones_1 : decode cX8_ones 1 = .ok (.istore_n 1, 1) := by decide +kernel
theorem dX8_ones_2 : decode cX8_ones 2 = .ok (.iconst 0, 1) := by decide +kernel
theorem dX8_ones_3 : decode cX8_ones 3 = .ok (.istore_n 2, 1) := by decide +kernel
theorem dX8_ones_4 : decode cX8_ones 4 = .ok (.iload_n 2, 1) := by decide +kernel
theorem dX8_ones_5 : decode cX8_ones 5 = .ok (.bipush 6, 2) := by decide +kernel
theorem dX8_ones_7 : decode cX8_ones 7 = .ok (.if_icmp .ge 17, 3) := by decide +kernel
theorem dX8_ones_10 : decode cX8_ones 10 = .ok (.iload_n 1, 1) := by decide +kernel
theorem dX8_ones_11 : decode cX8_ones 11 = .ok (.iload_n 0, 1) := by decide +kernel
theorem dX8_ones_12 : decode cX8_ones 12 = .ok (.iload_n 2, 1) := by decide +kernel
theorem dX8_ones_13 : decode cX8_ones 13 = .ok (.ishr, 1) := by decide +kernel
theorem dX8_ones_14 : decode cX8_ones 14 = .ok (.iconst 1, 1) := by decide +kernel
theorem dX8_ones_15 : decode cX8_ones 15 = .ok (.iand, 1) := by decide +kernel
theorem dX8_ones_16 : decode cX8_ones 16 = .ok (.iadd, 1) := by decide +kernel
theorem dX8_ones_17 : decode cX8_ones 17 = .ok (.istore_n 1, 1) := by decide +kernel
theorem dX8_ones_18 : decode cX8_ones 18 = .ok (.iinc 2 1, 3) := by decide +kernel
theorem dX8_ones_21 : decode cX8_ones 21 = .ok (.goto (-17), 3) := by decide +kernel
theorem dX8_ones_24 : decode cX8_ones 24 = .ok (.iload_n 1, 1) := by decide +kernel
theorem dX8_ones_25 : decode cX8_ones 25 = .ok (.ireturn, 1) := by decide +kernel
theorem dX8_isJoke_0 : decode cX8_isJoke 0 = .ok (.iload_n 1, 1) := by decide +kernel
theorem dX8_isJoke_1 : decode cX8_isJoke 1 = .ok (.iconst 0, 1) := by decide +kernel
theorem dX8_isJoke_2 : decode cX8_isJoke 2 = .ok (.aload_n 0, 1) := by decide +kernel
theorem dX8_isJoke_3 : decode cX8_isJoke 3 = .ok (.getfield 75, 3) := by decide +kernel
theorem dX8_isJoke_6 : decode cX8_isJoke 6 = .ok (.iconst 1, 1) := by decide +kernel
theorem dX8_isJoke_7 : decode cX8_isJoke 7 = .ok (.isub, 1) := by decide +kernel
theorem dX8_isJoke_8 : decode cX8_isJoke 8 = .ok (.invokestatic 78, 3) := by decide +kernel
theorem dX8_isJoke_11 : decode cX8_isJoke 11 = .ok (.ireturn, 1) := by decide +kernel
theorem dX8_isHearer_0 : decode cX8_isHearer 0 = .ok (.iload_n 1, 1) := by decide +kernel
theorem dX8_isHearer_1 : decode cX8_isHearer 1 = .ok (.iconst 0, 1) := by decide +kernel
theorem dX8_isHearer_2 : decode cX8_isHearer 2 = .ok (.aload_n 0, 1) := by decide +kernel
theorem dX8_isHearer_3 : decode cX8_isHearer 3 = .ok (.getfield 82, 3) := by decide +kernel
theorem dX8_isHearer_6 : decode cX8_isHearer 6 = .ok (.iconst 1, 1) := by decide +kernel
theorem dX8_isHearer_7 : decode cX8_isHearer 7 = .ok (.isub, 1) := by decide +kernel
theorem dX8_isHearer_8 : decode cX8_isHearer 8 = .ok (.invokestatic 78, 3) := by decide +kernel
theorem dX8_isHearer_11 : decode cX8_isHearer 11 = .ok (.ireturn, 1) := by decide +kernel
theorem dX8_everybody_0 : decode cX8_everybody 0 = .ok (.iconst 1, 1) := by decide +kernel
theorem dX8_everybody_1 : decode cX8_everybody 1 = .ok (.aload_n 0, 1) := by decide +kernel
theorem dX8_everybody_2 : decode cX8_everybody 2 = .ok (.getfield 82, 3) := by decide +kernel
theorem dX8_everybody_5 : decode cX8_everybody 5 = .ok (.ishl, 1) := by decide +kernel
theorem dX8_everybody_6 : decode cX8_everybody 6 = .ok (.iconst 1, 1) := by decide +kernel
theorem dX8_everybody_7 : decode cX8_everybody 7 = .ok (.isub, 1) := by decide +kernel
theorem dX8_everybody_8 : decode cX8_everybody 8 = .ok (.ireturn, 1) := by decide +kernel
theorem dX8_areSome_0 : decode cX8_areSome 0 = .ok (.iload_n 1, 1) := by decide +kernel
theorem dX8_areSome_1 : decode cX8_areSome 1 = .ok (.iconst 0, 1) := by decide +kernel
theorem dX8_areSome_2 : decode cX8_areSome 2 = .ok (.aload_n 0, 1) := by decide +kernel
theorem dX8_areSome_3 : decode cX8_areSome 3 = .ok (.invokevirtual 85, 3) := by decide +kernel
theorem dX8_areSome_6 : decode cX8_areSome 6 = .ok (.invokestatic 78, 3) := by decide +kernel
theorem dX8_areSome_9 : decode cX8_areSome 9 = .ok (.ireturn, 1) := by decide +kernel
theorem dX8_count_0 : decode cX8_count 0 = .ok (.iload_n 1, 1) := by decide +kernel
theorem dX8_count_1 : decode cX8_count 1 = .ok (.tableswitch 69 0 5 #[39, 44, 49, 54, 59, 64], 39) := by decide +kernel
theorem dX8_count_40 : decode cX8_count 40 = .ok (.aload_n 0, 1) := by decide +kernel
theorem dX8_count_41 : decode cX8_count 41 = .ok (.getfield 75, 3) := by decide +kernel
theorem dX8_count_44 : decode cX8_count 44 = .ok (.ireturn, 1) := by decide +kernel
theorem dX8_count_45 : decode cX8_count 45 = .ok (.aload_n 0, 1) := by decide +kernel
theorem dX8_count_46 : decode cX8_count 46 = .ok (.getfield 82, 3) := by decide +kernel
theorem dX8_count_49 : decode cX8_count 49 = .ok (.ireturn, 1) := by decide +kernel
theorem dX8_count_50 : decode cX8_count 50 = .ok (.aload_n 0, 1) := by decide +kernel
theorem dX8_count_51 : decode cX8_count 51 = .ok (.getfield 88, 3) := by decide +kernel
theorem dX8_count_54 : decode cX8_count 54 = .ok (.ireturn, 1) := by decide +kernel
theorem dX8_count_55 : decode cX8_count 55 = .ok (.aload_n 0, 1) := by decide +kernel
theorem dX8_count_56 : decode cX8_count 56 = .ok (.getfield 91, 3) := by decide +kernel
theorem dX8_count_59 : decode cX8_count 59 = .ok (.ireturn, 1) := by decide +kernel
theorem dX8_count_60 : decode cX8_count 60 = .ok (.aload_n 0, 1) := by decide +kernel
theorem dX8_count_61 : decode cX8_count 61 = .ok (.getfield 94, 3) := by decide +kernel
theorem dX8_count_64 : decode cX8_count 64 = .ok (.ireturn, 1) := by decide +kernel
theorem dX8_count_65 : decode cX8_count 65 = .ok (.aload_n 0, 1) := by decide +kernel
theorem dX8_count_66 : decode cX8_count 66 = .ok (.getfield 67, 3) := by decide +kernel
theorem dX8_count_69 : decode cX8_count 69 = .ok (.ireturn, 1) := by decide +kernel
theorem dX8_count_70 : decode cX8_count 70 = .ok (.bipush (-2), 2) := by decide +kernel
theorem dX8_count_72 : decode cX8_count 72 = .ok (.ireturn, 1) := by decide +kernel
theorem dX8_isByte_0 : decode cX8_isByte 0 = .ok (.iload_n 0, 1) := by decide +kernel
theorem dX8_isByte_1 : decode cX8_isByte 1 = .ok (.iconst 0, 1) := by decide +kernel
theorem dX8_isByte_2 : decode cX8_isByte 2 = .ok (.sipush 255, 3) := by decide +kernel
theorem dX8_isByte_5 : decode cX8_isByte 5 = .ok (.invokestatic 78, 3) := by decide +kernel
theorem dX8_isByte_8 : decode cX8_isByte 8 = .ok (.ireturn, 1) := by decide +kernel
theorem dX8_feed_0 : decode cX8_feed 0 = .ok (.iload_n 1, 1) := by decide +kernel
theorem dX8_feed_1 : decode cX8_feed 1 = .ok (.iconst 1, 1) := by decide +kernel
theorem dX8_feed_2 : decode cX8_feed 2 = .ok (.iconst 5, 1) := by decide +kernel
theorem dX8_feed_3 : decode cX8_feed 3 = .ok (.invokestatic 78, 3) := by decide +kernel
theorem dX8_feed_6 : decode cX8_feed 6 = .ok (.ifCond .eq 41, 3) := by decide +kernel
theorem dX8_feed_9 : decode cX8_feed 9 = .ok (.iload_n 2, 1) := by decide +kernel
theorem dX8_feed_10 : decode cX8_feed 10 = .ok (.invokestatic 97, 3) := by decide +kernel
theorem dX8_feed_13 : decode cX8_feed 13 = .ok (.ifCond .eq 34, 3) := by decide +kernel
theorem dX8_feed_16 : decode cX8_feed 16 = .ok (.iload_n 3, 1) := by decide +kernel
theorem dX8_feed_17 : decode cX8_feed 17 = .ok (.invokestatic 97, 3) := by decide +kernel
theorem dX8_feed_20 : decode cX8_feed 20 = .ok (.ifCond .eq 27, 3) := by decide +kernel
theorem dX8_feed_23 : decode cX8_feed 23 = .ok (.iload 4, 2) := by decide +kernel
theorem dX8_feed_25 : decode cX8_feed 25 = .ok (.invokestatic 97, 3) := by decide +kernel
theorem dX8_feed_28 : decode cX8_feed 28 = .ok (.ifCond .eq 19, 3) := by decide +kernel
theorem dX8_feed_31 : decode cX8_feed 31 = .ok (.iload 5, 2) := by decide +kernel
theorem dX8_feed_33 : decode cX8_feed 33 = .ok (.invokestatic 97, 3) := by decide +kernel
theorem dX8_feed_36 : decode cX8_feed 36 = .ok (.ifCond .eq 11, 3) := by decide +kernel
theorem dX8_feed_39 : decode cX8_feed 39 = .ok (.iload 6, 2) := by decide +kernel
theorem dX8_feed_41 : decode cX8_feed 41 = .ok (.invokestatic 97, 3) := by decide +kernel
theorem dX8_feed_44 : decode cX8_feed 44 = .ok (.ifCond .ne 6, 3) := by decide +kernel
theorem dX8_feed_47 : decode cX8_feed 47 = .ok (.bipush (-2), 2) := by decide +kernel
theorem dX8_feed_49 : decode cX8_feed 49 = .ok (.ireturn, 1) := by decide +kernel
theorem dX8_feed_50 : decode cX8_feed 50 = .ok (.aload_n 0, 1) := by decide +kernel
theorem dX8_feed_51 : decode cX8_feed 51 = .ok (.getfield 67, 3) := by decide +kernel
theorem dX8_feed_54 : decode cX8_feed 54 = .ok (.iload_n 1, 1) := by decide +kernel
theorem dX8_feed_55 : decode cX8_feed 55 = .ok (.iadd, 1) := by decide +kernel
theorem dX8_feed_56 : decode cX8_feed 56 = .ok (.sipush 160, 3) := by decide +kernel
theorem dX8_feed_59 : decode cX8_feed 59 = .ok (.if_icmp .le 6, 3) := by decide +kernel
theorem dX8_feed_62 : decode cX8_feed 62 = .ok (.bipush (-4), 2) := by decide +kernel
theorem dX8_feed_64 : decode cX8_feed 64 = .ok (.ireturn, 1) := by decide +kernel
theorem dX8_feed_65 : decode cX8_feed 65 = .ok (.iconst 0, 1) := by decide +kernel
theorem dX8_feed_66 : decode cX8_feed 66 = .ok (.istore 7, 2) := by decide +kernel
theorem dX8_feed_68 : decode cX8_feed 68 = .ok (.iload 7, 2) := by decide +kernel
theorem dX8_feed_70 : decode cX8_feed 70 = .ok (.iload_n 1, 1) := by decide +kernel
theorem dX8_feed_71 : decode cX8_feed 71 = .ok (.if_icmp .ge 71, 3) := by decide +kernel
theorem dX8_feed_74 : decode cX8_feed 74 = .ok (.aload_n 0, 1) := by decide +kernel
theorem dX8_feed_75 : decode cX8_feed 75 = .ok (.getfield 25, 3) := by decide +kernel
theorem dX8_feed_78 : decode cX8_feed 78 = .ok (.aload_n 0, 1) := by decide +kernel
theorem dX8_feed_79 : decode cX8_feed 79 = .ok (.getfield 67, 3) := by decide +kernel
theorem dX8_feed_82 : decode cX8_feed 82 = .ok (.iload 7, 2) := by decide +kernel
theorem dX8_feed_84 : decode cX8_feed 84 = .ok (.ifCond .ne 7, 3) := by decide +kernel
theorem dX8_feed_87 : decode cX8_feed 87 = .ok (.iload_n 2, 1) := by decide +kernel
theorem dX8_feed_88 : decode cX8_feed 88 = .ok (.goto 37, 3) := by decide +kernel
theorem dX8_feed_91 : decode cX8_feed 91 = .ok (.iload 7, 2) := by decide +kernel
theorem dX8_feed_93 : decode cX8_feed 93 = .ok (.iconst 1, 1) := by decide +kernel
theorem dX8_feed_94 : decode cX8_feed 94 = .ok (.if_icmp .ne 7, 3) := by decide +kernel
theorem dX8_feed_97 : decode cX8_feed 97 = .ok (.iload_n 3, 1) := by decide +kernel
theorem dX8_feed_98 : decode cX8_feed 98 = .ok (.goto 27, 3) := by decide +kernel
theorem dX8_feed_101 : decode cX8_feed 101 = .ok (.iload 7, 2) := by decide +kernel
theorem dX8_feed_103 : decode cX8_feed 103 = .ok (.iconst 2, 1) := by decide +kernel
theorem dX8_feed_104 : decode cX8_feed 104 = .ok (.if_icmp .ne 8, 3) := by decide +kernel
theorem dX8_feed_107 : decode cX8_feed 107 = .ok (.iload 4, 2) := by decide +kernel
theorem dX8_feed_109 : decode cX8_feed 109 = .ok (.goto 16, 3) := by decide +kernel
theorem dX8_feed_112 : decode cX8_feed 112 = .ok (.iload 7, 2) := by decide +kernel
theorem dX8_feed_114 : decode cX8_feed 114 = .ok (.iconst 3, 1) := by decide +kernel
theorem dX8_feed_115 : decode cX8_feed 115 = .ok (.if_icmp .ne 8, 3) := by decide +kernel
theorem dX8_feed_118 : decode cX8_feed 118 = .ok (.iload 5, 2) := by decide +kernel
theorem dX8_feed_120 : decode cX8_feed 120 = .ok (.goto 5, 3) := by decide +kernel
theorem dX8_feed_123 : decode cX8_feed 123 = .ok (.iload 6, 2) := by decide +kernel
theorem dX8_feed_125 : decode cX8_feed 125 = .ok (.iastore, 1) := by decide +kernel
theorem dX8_feed_126 : decode cX8_feed 126 = .ok (.aload_n 0, 1) := by decide +kernel
theorem dX8_feed_127 : decode cX8_feed 127 = .ok (.dup, 1) := by decide +kernel
theorem dX8_feed_128 : decode cX8_feed 128 = .ok (.getfield 67, 3) := by decide +kernel
theorem dX8_feed_131 : decode cX8_feed 131 = .ok (.iconst 1, 1) := by decide +kernel
theorem dX8_feed_132 : decode cX8_feed 132 = .ok (.iadd, 1) := by decide +kernel
theorem dX8_feed_133 : decode cX8_feed 133 = .ok (.putfield 67, 3) := by decide +kernel
theorem dX8_feed_136 : decode cX8_feed 136 = .ok (.iinc 7 1, 3) := by decide +kernel
theorem dX8_feed_139 : decode cX8_feed 139 = .ok (.goto (-71), 3) := by decide +kernel
theorem dX8_feed_142 : decode cX8_feed 142 = .ok (.aload_n 0, 1) := by decide +kernel
theorem dX8_feed_143 : decode cX8_feed 143 = .ok (.getfield 67, 3) := by decide +kernel
theorem dX8_feed_146 : decode cX8_feed 146 = .ok (.ireturn, 1) := by decide +kernel
theorem dX8_wordFrom_0 : decode cX8_wordFrom 0 = .ok (.iconst 0, 1) := by decide +kernel
theorem dX8_wordFrom_1 : decode cX8_wordFrom 1 = .ok (.istore_n 3, 1) := by decide +kernel
theorem dX8_wordFrom_2 : decode cX8_wordFrom 2 = .ok (.iload_n 3, 1) := by decide +kernel
theorem dX8_wordFrom_3 : decode cX8_wordFrom 3 = .ok (.bipush 12, 2) := by decide +kernel
theorem dX8_wordFrom_5 : decode cX8_wordFrom 5 = .ok (.if_icmp .ge 96, 3) := by decide +kernel
theorem dX8_wordFrom_8 : decode cX8_wordFrom 8 = .ok (.iload_n 2, 1) := by decide +kernel
theorem dX8_wordFrom_9 : decode cX8_wordFrom 9 = .ok (.iload_n 1, 1) := by decide +kernel
theorem dX8_wordFrom_10 : decode cX8_wordFrom 10 = .ok (.isub, 1) := by decide +kernel
theorem dX8_wordFrom_11 : decode cX8_wordFrom 11 = .ok (.bipush 8, 2) := by decide +kernel
theorem dX8_wordFrom_13 : decode cX8_wordFrom 13 = .ok (.if_icmp .gt 7, 3) := by decide +kernel
theorem dX8_wordFrom_16 : decode cX8_wordFrom 16 = .ok (.iconst 1, 1) := by decide +kernel
theorem dX8_wordFrom_17 : decode cX8_wordFrom 17 = .ok (.goto 4, 3) := by decide +kernel
theorem dX8_wordFrom_20 : decode cX8_wordFrom 20 = .ok (.iconst 0, 1) := by decide +kernel
theorem dX8_wordFrom_21 : decode cX8_wordFrom 21 = .ok (.istore 4, 2) := by decide +kernel
theorem dX8_wordFrom_23 : decode cX8_wordFrom 23 = .ok (.iconst 0, 1) := by decide +kernel
theorem dX8_wordFrom_24 : decode cX8_wordFrom 24 = .ok (.istore 5, 2) := by decide +kernel
theorem dX8_wordFrom_26 : decode cX8_wordFrom 26 = .ok (.iload 5, 2) := by decide +kernel
theorem dX8_wordFrom_28 : decode cX8_wordFrom 28 = .ok (.bipush 8, 2) := by decide +kernel
theorem dX8_wordFrom_30 : decode cX8_wordFrom 30 = .ok (.if_icmp .ge 58, 3) := by decide +kernel
theorem dX8_wordFrom_33 : decode cX8_wordFrom 33 = .ok (.iload 4, 2) := by decide +kernel
theorem dX8_wordFrom_35 : decode cX8_wordFrom 35 = .ok (.ifCond .eq 53, 3) := by decide +kernel
theorem dX8_wordFrom_38 : decode cX8_wordFrom 38 = .ok (.aload_n 0, 1) := by decide +kernel
theorem dX8_wordFrom_39 : decode cX8_wordFrom 39 = .ok (.getfield 49, 3) := by decide +kernel
theorem dX8_wordFrom_42 : decode cX8_wordFrom 42 = .ok (.bipush 8, 2) := by decide +kernel
theorem dX8_wordFrom_44 : decode cX8_wordFrom 44 = .ok (.iload_n 3, 1) := by decide +kernel
theorem dX8_wordFrom_45 : decode cX8_wordFrom 45 = .ok (.imul, 1) := by decide +kernel
theorem dX8_wordFrom_46 : decode cX8_wordFrom 46 = .ok (.iload 5, 2) := by decide +kernel
theorem dX8_wordFrom_48 : decode cX8_wordFrom 48 = .ok (.iadd, 1) := by decide +kernel
theorem dX8_wordFrom_49 : decode cX8_wordFrom 49 = .ok (.iaload, 1) := by decide +kernel
theorem dX8_wordFrom_50 : decode cX8_wordFrom 50 = .ok (.iload_n 1, 1) := by decide +kernel
theorem dX8_wordFrom_51 : decode cX8_wordFrom 51 = .ok (.iload 5, 2) := by decide +kernel
theorem dX8_wordFrom_53 : decode cX8_wordFrom 53 = .ok (.iadd, 1) := by decide +kernel
theorem dX8_wordFrom_54 : decode cX8_wordFrom 54 = .ok (.iload_n 2, 1) := by decide +kernel
theorem dX8_wordFrom_55 : decode cX8_wordFrom 55 = .ok (.if_icmp .ge 15, 3) := by decide +kernel
theorem dX8_wordFrom_58 : decode cX8_wordFrom 58 = .ok (.aload_n 0, 1) := by decide +kernel
theorem dX8_wordFrom_59 : decode cX8_wordFrom 59 = .ok (.getfield 25, 3) := by decide +kernel
theorem dX8_wordFrom_62 : decode cX8_wordFrom 62 = .ok (.iload_n 1, 1) := by decide +kernel
theorem dX8_wordFrom_63 : decode cX8_wordFrom 63 = .ok (.iload 5, 2) := by decide +kernel
theorem dX8_wordFrom_65 : decode cX8_wordFrom 65 = .ok (.iadd, 1) := by decide +kernel
theorem dX8_wordFrom_66 : decode cX8_wordFrom 66 = .ok (.iaload, 1) := by decide +kernel
theorem dX8_wordFrom_67 : decode cX8_wordFrom 67 = .ok (.goto 5, 3) := by decide +kernel
theorem dX8_wordFrom_70 : decode cX8_wordFrom 70 = .ok (.bipush 32, 2) := by decide +kernel
theorem dX8_wordFrom_72 : decode cX8_wordFrom 72 = .ok (.if_icmp .ne 7, 3) := by decide +kernel
theorem dX8_wordFrom_75 : decode cX8_wordFrom 75 = .ok (.iconst 1, 1) := by decide +kernel
theorem dX8_wordFrom_76 : decode cX8_wordFrom 76 = .ok (.goto 4, 3) := by decide +kernel
theorem dX8_wordFrom_79 : decode cX8_wordFrom 79 = .ok (.iconst 0, 1) := by decide +kernel
theorem dX8_wordFrom_80 : decode cX8_wordFrom 80 = .ok (.istore 4, 2) := by decide +kernel
theorem dX8_wordFrom_82 : decode cX8_wordFrom 82 = .ok (.iinc 5 1, 3) := by decide +kernel
theorem dX8_wordFrom_85 : decode cX8_wordFrom 85 = .ok (.goto (-59), 3) := by decide +kernel
theorem dX8_wordFrom_88 : decode cX8_wordFrom 88 = .ok (.iload 4, 2) := by decide +kernel
theorem dX8_wordFrom_90 : decode cX8_wordFrom 90 = .ok (.ifCond .eq 5, 3) := by decide +kernel
theorem dX8_wordFrom_93 : decode cX8_wordFrom 93 = .ok (.iload_n 3, 1) := by decide +kernel
theorem dX8_wordFrom_94 : decode cX8_wordFrom 94 = .ok (.ireturn, 1) := by decide +kernel
theorem dX8_wordFrom_95 : decode cX8_wordFrom 95 = .ok (.iinc 3 1, 3) := by decide +kernel
theorem dX8_wordFrom_98 : decode cX8_wordFrom 98 = .ok (.goto (-96), 3) := by decide +kernel
theorem dX8_wordFrom_101 : decode cX8_wordFrom 101 = .ok (.bipush 12, 2) := by decide +kernel
theorem dX8_wordFrom_103 : decode cX8_wordFrom 103 = .ok (.ireturn, 1) := by decide +kernel
theorem dX8_next_0 : decode cX8_next 0 = .ok (.aload_n 0, 1) := by decide +kernel
theorem dX8_next_1 : decode cX8_next 1 = .ok (.getfield 101, 3) := by decide +kernel
theorem dX8_next_4 : decode cX8_next 4 = .ok (.aload_n 0, 1) := by decide +kernel
theorem dX8_next_5 : decode cX8_next 5 = .ok (.getfield 67, 3) := by decide +kernel
theorem dX8_next_8 : decode cX8_next 8 = .ok (.if_icmp .ge 44, 3) := by decide +kernel
theorem dX8_next_11 : decode cX8_next 11 = .ok (.aload_n 0, 1) := by decide +kernel
theorem dX8_next_12 : decode cX8_next 12 = .ok (.getfield 25, 3) := by decide +kernel
theorem dX8_next_15 : decode cX8_next 15 = .ok (.aload_n 0, 1) := by decide +kernel
theorem dX8_next_16 : decode cX8_next 16 = .ok (.getfield 101, 3) := by decide +kernel
theorem dX8_next_19 : decode cX8_next 19 = .ok (.iaload, 1) := by decide +kernel
theorem dX8_next_20 : decode cX8_next 20 = .ok (.bipush 32, 2) := by decide +kernel
theorem dX8_next_22 : decode cX8_next 22 = .ok (.if_icmp .eq 17, 3) := by decide +kernel
theorem dX8_next_25 : decode cX8_next 25 = .ok (.aload_n 0, 1) := by decide +kernel
theorem dX8_next_26 : decode cX8_next 26 = .ok (.getfield 25, 3) := by decide +kernel
theorem dX8_next_29 : decode cX8_next 29 = .ok (.aload_n 0, 1) := by decide +kernel
theorem dX8_next_30 : decode cX8_next 30 = .ok (.getfield 101, 3) := by decide +kernel
theorem dX8_next_33 : decode cX8_next 33 = .ok (.iaload, 1) := by decide +kernel
theorem dX8_next_34 : decode cX8_next 34 = .ok (.bipush 10, 2) := by decide +kernel
theorem dX8_next_36 : decode cX8_next 36 = .ok (.if_icmp .ne 16, 3) := by decide +kernel
theorem dX8_next_39 : decode cX8_next 39 = .ok (.aload_n 0, 1) := by decide +kernel
theorem dX8_next_40 : decode cX8_next 40 = .ok (.dup, 1) := by decide +kernel
theorem dX8_next_41 : decode cX8_next 41 = .ok (.getfield 101, 3) := by decide +kernel
theorem dX8_next_44 : decode cX8_next 44 = .ok (.iconst 1, 1) := by decide +kernel
theorem dX8_next_45 : decode cX8_next 45 = .ok (.iadd, 1) := by decide +kernel
theorem dX8_next_46 : decode cX8_next 46 = .ok (.putfield 101, 3) := by decide +kernel
theorem dX8_next_49 : decode cX8_next 49 = .ok (.goto (-49), 3) := by decide +kernel
theorem dX8_next_52 : decode cX8_next 52 = .ok (.aload_n 0, 1) := by decide +kernel
theorem dX8_next_53 : decode cX8_next 53 = .ok (.aload_n 0, 1) := by decide +kernel
theorem dX8_next_54 : decode cX8_next 54 = .ok (.getfield 101, 3) := by decide +kernel
theorem dX8_next_57 : decode cX8_next 57 = .ok (.putfield 104, 3) := by decide +kernel
theorem dX8_next_60 : decode cX8_next 60 = .ok (.aload_n 0, 1) := by decide +kernel
theorem dX8_next_61 : decode cX8_next 61 = .ok (.iconst 0, 1) := by decide +kernel
theorem dX8_next_62 : decode cX8_next 62 = .ok (.putfield 107, 3) := by decide +kernel
theorem dX8_next_65 : decode cX8_next 65 = .ok (.aload_n 0, 1) := by decide +kernel
theorem dX8_next_66 : decode cX8_next 66 = .ok (.iconst 0, 1) := by decide +kernel
theorem dX8_next_67 : decode cX8_next 67 = .ok (.putfield 110, 3) := by decide +kernel
theorem dX8_next_70 : decode cX8_next 70 = .ok (.aload_n 0, 1) := by decide +kernel
theorem dX8_next_71 : decode cX8_next 71 = .ok (.getfield 101, 3) := by decide +kernel
theorem dX8_next_74 : decode cX8_next 74 = .ok (.aload_n 0, 1) := by decide +kernel
theorem dX8_next_75 : decode cX8_next 75 = .ok (.getfield 67, 3) := by decide +kernel
theorem dX8_next_78 : decode cX8_next 78 = .ok (.if_icmp .ne 4, 3) := by decide +kernel
theorem dX8_next_81 : decode cX8_next 81 = .ok (.return_, 1) := by decide +kernel
theorem dX8_next_82 : decode cX8_next 82 = .ok (.aload_n 0, 1) := by decide +kernel
theorem dX8_next_83 : decode cX8_next 83 = .ok (.getfield 25, 3) := by decide +kernel
theorem dX8_next_86 : decode cX8_next 86 = .ok (.aload_n 0, 1) := by decide +kernel
theorem dX8_next_87 : decode cX8_next 87 = .ok (.getfield 101, 3) := by decide +kernel
theorem dX8_next_90 : decode cX8_next 90 = .ok (.iaload, 1) := by decide +kernel
theorem dX8_next_91 : decode cX8_next 91 = .ok (.istore_n 1, 1) := by decide +kernel
theorem dX8_next_92 : decode cX8_next 92 = .ok (.iload_n 1, 1) := by decide +kernel
theorem dX8_next_93 : decode cX8_next 93 = .ok (.bipush 97, 2) := by decide +kernel
theorem dX8_next_95 : decode cX8_next 95 = .ok (.bipush 122, 2) := by decide +kernel
theorem dX8_next_97 : decode cX8_next 97 = .ok (.invokestatic 78, 3) := by decide +kernel
theorem dX8_next_100 : decode cX8_next 100 = .ok (.ifCond .eq 117, 3) := by decide +kernel
theorem dX8_next_103 : decode cX8_next 103 = .ok (.aload_n 0, 1) := by decide +kernel
theorem dX8_next_104 : decode cX8_next 104 = .ok (.getfield 101, 3) := by decide +kernel
theorem dX8_next_107 : decode cX8_next 107 = .ok (.aload_n 0, 1) := by decide +kernel
theorem dX8_next_108 : decode cX8_next 108 = .ok (.getfield 67, 3) := by decide +kernel
theorem dX8_next_111 : decode cX8_next 111 = .ok (.if_icmp .ge 35, 3) := by decide +kernel
theorem dX8_next_114 : decode cX8_next 114 = .ok (.aload_n 0, 1) := by decide +kernel
theorem dX8_next_115 : decode cX8_next 115 = .ok (.getfield 25, 3) := by decide +kernel
theorem dX8_next_118 : decode cX8_next 118 = .ok (.aload_n 0, 1) := by decide +kernel
theorem dX8_next_119 : decode cX8_next 119 = .ok (.getfield 101, 3) := by decide +kernel
theorem dX8_next_122 : decode cX8_next 122 = .ok (.iaload, 1) := by decide +kernel
theorem dX8_next_123 : decode cX8_next 123 = .ok (.bipush 97, 2) := by decide +kernel
theorem dX8_next_125 : decode cX8_next 125 = .ok (.bipush 122, 2) := by decide +kernel
theorem dX8_next_127 : decode cX8_next 127 = .ok (.invokestatic 78, 3) := by decide +kernel
theorem dX8_next_130 : decode cX8_next 130 = .ok (.ifCond .eq 16, 3) := by decide +kernel
theorem dX8_next_133 : decode cX8_next 133 = .ok (.aload_n 0, 1) := by decide +kernel
theorem dX8_next_134 : decode cX8_next 134 = .ok (.dup, 1) := by decide +kernel
theorem dX8_next_135 : decode cX8_next 135 = .ok (.getfield 101, 3) := by decide +kernel
theorem dX8_next_138 : decode cX8_next 138 = .ok (.iconst 1, 1) := by decide +kernel
theorem dX8_next_139 : decode cX8_next 139 = .ok (.iadd, 1) := by decide +kernel
theorem dX8_next_140 : decode cX8_next 140 = .ok (.putfield 101, 3) := by decide +kernel
theorem dX8_next_143 : decode cX8_next 143 = .ok (.goto (-40), 3) := by decide +kernel
theorem dX8_next_146 : decode cX8_next 146 = .ok (.aload_n 0, 1) := by decide +kernel
theorem dX8_next_147 : decode cX8_next 147 = .ok (.aload_n 0, 1) := by decide +kernel
theorem dX8_next_148 : decode cX8_next 148 = .ok (.getfield 104, 3) := by decide +kernel
theorem dX8_next_151 : decode cX8_next 151 = .ok (.aload_n 0, 1) := by decide +kernel
theorem dX8_next_152 : decode cX8_next 152 = .ok (.getfield 101, 3) := by decide +kernel
theorem dX8_next_155 : decode cX8_next 155 = .ok (.invokevirtual 113, 3) := by decide +kernel
theorem dX8_next_158 : decode cX8_next 158 = .ok (.istore_n 2, 1) := by decide +kernel
theorem dX8_next_159 : decode cX8_next 159 = .ok (.aload_n 0, 1) := by decide +kernel
theorem dX8_next_160 : decode cX8_next 160 = .ok (.iload_n 2, 1) := by decide +kernel
theorem dX8_next_161 : decode cX8_next 161 = .ok (.iconst 3, 1) := by decide +kernel
theorem dX8_next_162 : decode cX8_next 162 = .ok (.if_icmp .ge 7, 3) := by decide +kernel
theorem dX8_next_165 : decode cX8_next 165 = .ok (.iconst 3, 1) := by decide +kernel
theorem dX8_next_166 : decode cX8_next 166 = .ok (.goto 29, 3) := by decide +kernel
theorem dX8_next_169 : decode cX8_next 169 = .ok (.iload_n 2, 1) := by decide +kernel
theorem dX8_next_170 : decode cX8_next 170 = .ok (.bipush 9, 2) := by decide +kernel
theorem dX8_next_172 : decode cX8_next 172 = .ok (.if_icmp .ge 7, 3) := by decide +kernel
theorem dX8_next_175 : decode cX8_next 175 = .ok (.iconst 2, 1) := by decide +kernel
theorem dX8_next_176 : decode cX8_next 176 = .ok (.goto 19, 3) := by decide +kernel
theorem dX8_next_179 : decode cX8_next 179 = .ok (.iload_n 2, 1) := by decide +kernel
theorem dX8_next_180 : decode cX8_next 180 = .ok (.bipush 12, 2) := by decide +kernel
theorem dX8_next_182 : decode cX8_next 182 = .ok (.if_icmp .ne 7, 3) := by decide +kernel
theorem dX8_next_185 : decode cX8_next 185 = .ok (.iconst (-1), 1) := by decide +kernel
theorem dX8_next_186 : decode cX8_next 186 = .ok (.goto 9, 3) := by decide +kernel
theorem dX8_next_189 : decode cX8_next 189 = .ok (.iconst 4, 1) := by decide +kernel
theorem dX8_next_190 : decode cX8_next 190 = .ok (.iload_n 2, 1) := by decide +kernel
theorem dX8_next_191 : decode cX8_next 191 = .ok (.iadd, 1) := by decide +kernel
theorem dX8_next_192 : decode cX8_next 192 = .ok (.bipush 9, 2) := by decide +kernel
theorem dX8_next_194 : decode cX8_next 194 = .ok (.isub, 1) := by decide +kernel
theorem dX8_next_195 : decode cX8_next 195 = .ok (.putfield 107, 3) := by decide +kernel
theorem dX8_next_198 : decode cX8_next 198 = .ok (.aload_n 0, 1) := by decide +kernel
theorem dX8_next_199 : decode cX8_next 199 = .ok (.iload_n 2, 1) := by decide +kernel
theorem dX8_next_200 : decode cX8_next 200 = .ok (.iconst 3, 1) := by decide +kernel
theorem dX8_next_201 : decode cX8_next 201 = .ok (.if_icmp .ge 7, 3) := by decide +kernel
theorem dX8_next_204 : decode cX8_next 204 = .ok (.iload_n 2, 1) := by decide +kernel
theorem dX8_next_205 : decode cX8_next 205 = .ok (.goto 6, 3) := by decide +kernel
theorem dX8_next_208 : decode cX8_next 208 = .ok (.iload_n 2, 1) := by decide +kernel
theorem dX8_next_209 : decode cX8_next 209 = .ok (.iconst 3, 1) := by decide +kernel
theorem dX8_next_210 : decode cX8_next 210 = .ok (.isub, 1) := by decide +kernel
theorem dX8_next_211 : decode cX8_next 211 = .ok (.putfield 110, 3) := by decide +kernel
theorem dX8_next_214 : decode cX8_next 214 = .ok (.goto 189, 3) := by decide +kernel
theorem dX8_next_217 : decode cX8_next 217 = .ok (.iload_n 1, 1) := by decide +kernel
theorem dX8_next_218 : decode cX8_next 218 = .ok (.bipush 48, 2) := by decide +kernel
theorem dX8_next_220 : decode cX8_next 220 = .ok (.bipush 57, 2) := by decide +kernel
theorem dX8_next_222 : decode cX8_next 222 = .ok (.invokestatic 78, 3) := by decide +kernel
theorem dX8_next_225 : decode cX8_next 225 = .ok (.ifCond .eq 101, 3) := by decide +kernel
theorem dX8_next_228 : decode cX8_next 228 = .ok (.iconst 0, 1) := by decide +kernel
theorem dX8_next_229 : decode cX8_next 229 = .ok (.istore_n 2, 1) := by decide +kernel
theorem dX8_next_230 : decode cX8_next 230 = .ok (.aload_n 0, 1) := by decide +kernel
theorem dX8_next_231 : decode cX8_next 231 = .ok (.getfield 101, 3) := by decide +kernel
theorem dX8_next_234 : decode cX8_next 234 = .ok (.aload_n 0, 1) := by decide +kernel
theorem dX8_next_235 : decode cX8_next 235 = .ok (.getfield 67, 3) := by decide +kernel
theorem dX8_next_238 : decode cX8_next 238 = .ok (.if_icmp .ge 71, 3) := by decide +kernel
theorem dX8_next_241 : decode cX8_next 241 = .ok (.aload_n 0, 1) := by decide +kernel
theorem dX8_next_242 : decode cX8_next 242 = .ok (.getfield 25, 3) := by decide +kernel
theorem dX8_next_245 : decode cX8_next 245 = .ok (.aload_n 0, 1) := by decide +kernel
theorem dX8_next_246 : decode cX8_next 246 = .ok (.getfield 101, 3) := by decide +kernel
theorem dX8_next_249 : decode cX8_next 249 = .ok (.iaload, 1) := by decide +kernel
theorem dX8_next_250 : decode cX8_next 250 = .ok (.bipush 48, 2) := by decide +kernel
theorem dX8_next_252 : decode cX8_next 252 = .ok (.bipush 57, 2) := by decide +kernel
theorem dX8_next_254 : decode cX8_next 254 = .ok (.invokestatic 78, 3) := by decide +kernel
theorem dX8_next_257 : decode cX8_next 257 = .ok (.ifCond .eq 52, 3) := by decide +kernel
theorem dX8_next_260 : decode cX8_next 260 = .ok (.aload_n 0, 1) := by decide +kernel
theorem dX8_next_261 : decode cX8_next 261 = .ok (.iload_n 2, 1) := by decide +kernel
theorem dX8_next_262 : decode cX8_next 262 = .ok (.iconst 4, 1) := by decide +kernel
theorem dX8_next_263 : decode cX8_next 263 = .ok (.if_icmp .ge 26, 3) := by decide +kernel
theorem dX8_next_266 : decode cX8_next 266 = .ok (.bipush 10, 2) := by decide +kernel
theorem dX8_next_268 : decode cX8_next 268 = .ok (.aload_n 0, 1) := by decide +kernel
theorem dX8_next_269 : decode cX8_next 269 = .ok (.getfield 110, 3) := by decide +kernel
theorem dX8_next_272 : decode cX8_next 272 = .ok (.imul, 1) := by decide +kernel
theorem dX8_next_273 : decode cX8_next 273 = .ok (.aload_n 0, 1) := by decide +kernel
theorem dX8_next_274 : decode cX8_next 274 = .ok (.getfield 25, 3) := by decide +kernel
theorem dX8_next_277 : decode cX8_next 277 = .ok (.aload_n 0, 1) := by decide +kernel
theorem dX8_next_278 : decode cX8_next 278 = .ok (.getfield 101, 3) := by decide +kernel
theorem dX8_next_281 : decode cX8_next 281 = .ok (.iaload, 1) := by decide +kernel
theorem dX8_next_282 : decode cX8_next 282 = .ok (.iadd, 1) := by decide +kernel
theorem dX8_next_283 : decode cX8_next 283 = .ok (.bipush 48, 2) := by decide +kernel
theorem dX8_next_285 : decode cX8_next 285 = .ok (.isub, 1) := by decide +kernel
theorem dX8_next_286 : decode cX8_next 286 = .ok (.goto 4, 3) := by decide +kernel
theorem dX8_next_289 : decode cX8_next 289 = .ok (.iconst 0, 1) := by decide +kernel
theorem dX8_next_290 : decode cX8_next 290 = .ok (.putfield 110, 3) := by decide +kernel
theorem dX8_next_293 : decode cX8_next 293 = .ok (.iinc 2 1, 3) := by decide +kernel
theorem dX8_next_296 : decode cX8_next 296 = .ok (.aload_n 0, 1) := by decide +kernel
theorem dX8_next_297 : decode cX8_next 297 = .ok (.dup, 1) := by decide +kernel
theorem dX8_next_298 : decode cX8_next 298 = .ok (.getfield 101, 3) := by decide +kernel
theorem dX8_next_301 : decode cX8_next 301 = .ok (.iconst 1, 1) := by decide +kernel
theorem dX8_next_302 : decode cX8_next 302 = .ok (.iadd, 1) := by decide +kernel
theorem dX8_next_303 : decode cX8_next 303 = .ok (.putfield 101, 3) := by decide +kernel
theorem dX8_next_306 : decode cX8_next 306 = .ok (.goto (-76), 3) := by decide +kernel
theorem dX8_next_309 : decode cX8_next 309 = .ok (.aload_n 0, 1) := by decide +kernel
theorem dX8_next_310 : decode cX8_next 310 = .ok (.iload_n 2, 1) := by decide +kernel
theorem dX8_next_311 : decode cX8_next 311 = .ok (.iconst 4, 1) := by decide +kernel
theorem dX8_next_312 : decode cX8_next 312 = .ok (.if_icmp .le 7, 3) := by decide +kernel
theorem dX8_next_315 : decode cX8_next 315 = .ok (.iconst (-1), 1) := by decide +kernel
theorem dX8_next_316 : decode cX8_next 316 = .ok (.goto 4, 3) := by decide +kernel
theorem dX8_next_319 : decode cX8_next 319 = .ok (.iconst 1, 1) := by decide +kernel
theorem dX8_next_320 : decode cX8_next 320 = .ok (.putfield 107, 3) := by decide +kernel
theorem dX8_next_323 : decode cX8_next 323 = .ok (.goto 80, 3) := by decide +kernel
theorem dX8_next_326 : decode cX8_next 326 = .ok (.iload_n 1, 1) := by decide +kernel
theorem dX8_next_327 : decode cX8_next 327 = .ok (.bipush 40, 2) := by decide +kernel
theorem dX8_next_329 : decode cX8_next 329 = .ok (.if_icmp .eq 45, 3) := by decide +kernel
theorem dX8_next_332 : decode cX8_next 332 = .ok (.iload_n 1, 1) := by decide +kernel
theorem dX8_next_333 : decode cX8_next 333 = .ok (.bipush 41, 2) := by decide +kernel
theorem dX8_next_335 : decode cX8_next 335 = .ok (.if_icmp .eq 39, 3) := by decide +kernel
theorem dX8_next_338 : decode cX8_next 338 = .ok (.iload_n 1, 1) := by decide +kernel
theorem dX8_next_339 : decode cX8_next 339 = .ok (.bipush 59, 2) := by decide +kernel
theorem dX8_next_341 : decode cX8_next 341 = .ok (.if_icmp .eq 33, 3) := by decide +kernel
theorem dX8_next_344 : decode cX8_next 344 = .ok (.iload_n 1, 1) := by decide +kernel
theorem dX8_next_345 : decode cX8_next 345 = .ok (.bipush 43, 2) := by decide +kernel
theorem dX8_next_347 : decode cX8_next 347 = .ok (.if_icmp .eq 27, 3) := by decide +kernel
theorem dX8_next_350 : decode cX8_next 350 = .ok (.iload_n 1, 1) := by decide +kernel
theorem dX8_next_351 : decode cX8_next 351 = .ok (.bipush 45, 2) := by decide +kernel
theorem dX8_next_353 : decode cX8_next 353 = .ok (.if_icmp .eq 21, 3) := by decide +kernel
theorem dX8_next_356 : decode cX8_next 356 = .ok (.iload_n 1, 1) := by decide +kernel
theorem dX8_next_357 : decode cX8_next 357 = .ok (.bipush 42, 2) := by decide +kernel
theorem dX8_next_359 : decode cX8_next 359 = .ok (.if_icmp .eq 15, 3) := by decide +kernel
theorem dX8_next_362 : decode cX8_next 362 = .ok (.iload_n 1, 1) := by decide +kernel
theorem dX8_next_363 : decode cX8_next 363 = .ok (.bipush 60, 2) := by decide +kernel
theorem dX8_next_365 : decode cX8_next 365 = .ok (.if_icmp .eq 9, 3) := by decide +kernel
theorem dX8_next_368 : decode cX8_next 368 = .ok (.iload_n 1, 1) := by decide +kernel
theorem dX8_next_369 : decode cX8_next 369 = .ok (.bipush 61, 2) := by decide +kernel
theorem dX8_next_371 : decode cX8_next 371 = .ok (.if_icmp .ne 7, 3) := by decide +kernel
theorem dX8_next_374 : decode cX8_next 374 = .ok (.iconst 1, 1) := by decide +kernel
theorem dX8_next_375 : decode cX8_next 375 = .ok (.goto 4, 3) := by decide +kernel
theorem dX8_next_378 : decode cX8_next 378 = .ok (.iconst 0, 1) := by decide +kernel
theorem dX8_next_379 : decode cX8_next 379 = .ok (.istore_n 2, 1) := by decide +kernel
theorem dX8_next_380 : decode cX8_next 380 = .ok (.aload_n 0, 1) := by decide +kernel
theorem dX8_next_381 : decode cX8_next 381 = .ok (.iload_n 2, 1) := by decide +kernel
theorem dX8_next_382 : decode cX8_next 382 = .ok (.ifCond .eq 7, 3) := by decide +kernel
theorem dX8_next_385 : decode cX8_next 385 = .ok (.iload_n 1, 1) := by decide +kernel
theorem dX8_next_386 : decode cX8_next 386 = .ok (.goto 4, 3) := by decide +kernel
theorem dX8_next_389 : decode cX8_next 389 = .ok (.iconst (-1), 1) := by decide +kernel
theorem dX8_next_390 : decode cX8_next 390 = .ok (.putfield 107, 3) := by decide +kernel
theorem dX8_next_393 : decode cX8_next 393 = .ok (.aload_n 0, 1) := by decide +kernel
theorem dX8_next_394 : decode cX8_next 394 = .ok (.dup, 1) := by decide +kernel
theorem dX8_next_395 : decode cX8_next 395 = .ok (.getfield 101, 3) := by decide +kernel
theorem dX8_next_398 : decode cX8_next 398 = .ok (.iconst 1, 1) := by decide +kernel
theorem dX8_next_399 : decode cX8_next 399 = .ok (.iadd, 1) := by decide +kernel
theorem dX8_next_400 : decode cX8_next 400 = .ok (.putfield 101, 3) := by decide +kernel
theorem dX8_next_403 : decode cX8_next 403 = .ok (.return_, 1) := by decide +kernel
theorem dX8_rank_0 : decode cX8_rank 0 = .ok (.iload_n 0, 1) := by decide +kernel
theorem dX8_rank_1 : decode cX8_rank 1 = .ok (.ifCond .ne 7, 3) := by decide +kernel
theorem dX8_rank_4 : decode cX8_rank 4 = .ok (.iconst 0, 1) := by decide +kernel
theorem dX8_rank_5 : decode cX8_rank 5 = .ok (.goto 66, 3) := by decide +kernel
theorem dX8_rank_8 : decode cX8_rank 8 = .ok (.iload_n 0, 1) := by decide +kernel
theorem dX8_rank_9 : decode cX8_rank 9 = .ok (.bipush 11, 2) := by decide +kernel
theorem dX8_rank_11 : decode cX8_rank 11 = .ok (.if_icmp .ne 7, 3) := by decide +kernel
theorem dX8_rank_14 : decode cX8_rank 14 = .ok (.iconst 1, 1) := by decide +kernel
theorem dX8_rank_15 : decode cX8_rank 15 = .ok (.goto 56, 3) := by decide +kernel
theorem dX8_rank_18 : decode cX8_rank 18 = .ok (.iload_n 0, 1) := by decide +kernel
theorem dX8_rank_19 : decode cX8_rank 19 = .ok (.bipush 12, 2) := by decide +kernel
theorem dX8_rank_21 : decode cX8_rank 21 = .ok (.if_icmp .ne 7, 3) := by decide +kernel
theorem dX8_rank_24 : decode cX8_rank 24 = .ok (.iconst 2, 1) := by decide +kernel
theorem dX8_rank_25 : decode cX8_rank 25 = .ok (.goto 46, 3) := by decide +kernel
theorem dX8_rank_28 : decode cX8_rank 28 = .ok (.iload_n 0, 1) := by decide +kernel
theorem dX8_rank_29 : decode cX8_rank 29 = .ok (.bipush 13, 2) := by decide +kernel
theorem dX8_rank_31 : decode cX8_rank 31 = .ok (.if_icmp .ne 7, 3) := by decide +kernel
theorem dX8_rank_34 : decode cX8_rank 34 = .ok (.iconst 3, 1) := by decide +kernel
theorem dX8_rank_35 : decode cX8_rank 35 = .ok (.goto 36, 3) := by decide +kernel
theorem dX8_rank_38 : decode cX8_rank 38 = .ok (.iload_n 0, 1) := by decide +kernel
theorem dX8_rank_39 : decode cX8_rank 39 = .ok (.bipush 15, 2) := by decide +kernel
theorem dX8_rank_41 : decode cX8_rank 41 = .ok (.if_icmp .gt 7, 3) := by decide +kernel
theorem dX8_rank_44 : decode cX8_rank 44 = .ok (.iconst 4, 1) := by decide +kernel
theorem dX8_rank_45 : decode cX8_rank 45 = .ok (.goto 26, 3) := by decide +kernel
theorem dX8_rank_48 : decode cX8_rank 48 = .ok (.iload_n 0, 1) := by decide +kernel
theorem dX8_rank_49 : decode cX8_rank 49 = .ok (.bipush 17, 2) := by decide +kernel
theorem dX8_rank_51 : decode cX8_rank 51 = .ok (.if_icmp .gt 7, 3) := by decide +kernel
theorem dX8_rank_54 : decode cX8_rank 54 = .ok (.iconst 5, 1) := by decide +kernel
theorem dX8_rank_55 : decode cX8_rank 55 = .ok (.goto 16, 3) := by decide +kernel
theorem dX8_rank_58 : decode cX8_rank 58 = .ok (.iload_n 0, 1) := by decide +kernel
theorem dX8_rank_59 : decode cX8_rank 59 = .ok (.bipush 18, 2) := by decide +kernel
theorem dX8_rank_61 : decode cX8_rank 61 = .ok (.if_icmp .ne 8, 3) := by decide +kernel
theorem dX8_rank_64 : decode cX8_rank 64 = .ok (.bipush 6, 2) := by decide +kernel
theorem dX8_rank_66 : decode cX8_rank 66 = .ok (.goto 5, 3) := by decide +kernel
theorem dX8_rank_69 : decode cX8_rank 69 = .ok (.bipush 7, 2) := by decide +kernel
theorem dX8_rank_71 : decode cX8_rank 71 = .ok (.ireturn, 1) := by decide +kernel
theorem dX8_puts_0 : decode cX8_puts 0 = .ok (.aload_n 0, 1) := by decide +kernel
theorem dX8_puts_1 : decode cX8_puts 1 = .ok (.getfield 28, 3) := by decide +kernel
theorem dX8_puts_4 : decode cX8_puts 4 = .ok (.sipush 200, 3) := by decide +kernel
theorem dX8_puts_7 : decode cX8_puts 7 = .ok (.aload_n 0, 1) := by decide +kernel
theorem dX8_puts_8 : decode cX8_puts 8 = .ok (.getfield 91, 3) := by decide +kernel
theorem dX8_puts_11 : decode cX8_puts 11 = .ok (.imul, 1) := by decide +kernel
theorem dX8_puts_12 : decode cX8_puts 12 = .ok (.aload_n 0, 1) := by decide +kernel
theorem dX8_puts_13 : decode cX8_puts 13 = .ok (.getfield 117, 3) := by decide +kernel
theorem dX8_puts_16 : decode cX8_puts 16 = .ok (.iadd, 1) := by decide +kernel
theorem dX8_puts_17 : decode cX8_puts 17 = .ok (.iload_n 1, 1) := by decide +kernel
theorem dX8_puts_18 : decode cX8_puts 18 = .ok (.iastore, 1) := by decide +kernel
theorem dX8_puts_19 : decode cX8_puts 19 = .ok (.aload_n 0, 1) := by decide +kernel
theorem dX8_puts_20 : decode cX8_puts 20 = .ok (.dup, 1) := by decide +kernel
theorem dX8_puts_21 : decode cX8_puts 21 = .ok (.getfield 117, 3) := by decide +kernel
theorem dX8_puts_24 : decode cX8_puts 24 = .ok (.iconst 1, 1) := by decide +kernel
theorem dX8_puts_25 : decode cX8_puts 25 = .ok (.iadd, 1) := by decide +kernel
theorem dX8_puts_26 : decode cX8_puts 26 = .ok (.putfield 117, 3) := by decide +kernel
theorem dX8_puts_29 : decode cX8_puts 29 = .ok (.return_, 1) := by decide +kernel
theorem dX8_unwinds_0 : decode cX8_unwinds 0 = .ok (.aload_n 0, 1) := by decide +kernel
theorem dX8_unwinds_1 : decode cX8_unwinds 1 = .ok (.getfield 120, 3) := by decide +kernel
theorem dX8_unwinds_4 : decode cX8_unwinds 4 = .ok (.ifCond .le 75, 3) := by decide +kernel
theorem dX8_unwinds_7 : decode cX8_unwinds 7 = .ok (.aload_n 0, 1) := by decide +kernel
theorem dX8_unwinds_8 : decode cX8_unwinds 8 = .ok (.getfield 52, 3) := by decide +kernel
theorem dX8_unwinds_11 : decode cX8_unwinds 11 = .ok (.aload_n 0, 1) := by decide +kernel
theorem dX8_unwinds_12 : decode cX8_unwinds 12 = .ok (.getfield 120, 3) := by decide +kernel
theorem dX8_unwinds_15 : decode cX8_unwinds 15 = .ok (.iconst 1, 1) := by decide +kernel
theorem dX8_unwinds_16 : decode cX8_unwinds 16 = .ok (.isub, 1) := by decide +kernel
theorem dX8_unwinds_17 : decode cX8_unwinds 17 = .ok (.iaload, 1) := by decide +kernel
theorem dX8_unwinds_18 : decode cX8_unwinds 18 = .ok (.invokestatic 123, 3) := by decide +kernel
theorem dX8_unwinds_21 : decode cX8_unwinds 21 = .ok (.iload_n 1, 1) := by decide +kernel
theorem dX8_unwinds_22 : decode cX8_unwinds 22 = .ok (.if_icmp .lt 57, 3) := by decide +kernel
theorem dX8_unwinds_25 : decode cX8_unwinds 25 = .ok (.aload_n 0, 1) := by decide +kernel
theorem dX8_unwinds_26 : decode cX8_unwinds 26 = .ok (.dup, 1) := by decide +kernel
theorem dX8_unwinds_27 : decode cX8_unwinds 27 = .ok (.getfield 120, 3) := by decide +kernel
theorem dX8_unwinds_30 : decode cX8_unwinds 30 = .ok (.iconst 1, 1) := by decide +kernel
theorem dX8_unwinds_31 : decode cX8_unwinds 31 = .ok (.isub, 1) := by decide +kernel
theorem dX8_unwinds_32 : decode cX8_unwinds 32 = .ok (.putfield 120, 3) := by decide +kernel
theorem dX8_unwinds_35 : decode cX8_unwinds 35 = .ok (.aload_n 0, 1) := by decide +kernel
theorem dX8_unwinds_36 : decode cX8_unwinds 36 = .ok (.getfield 52, 3) := by decide +kernel
theorem dX8_unwinds_39 : decode cX8_unwinds 39 = .ok (.aload_n 0, 1) := by decide +kernel
theorem dX8_unwinds_40 : decode cX8_unwinds 40 = .ok (.getfield 120, 3) := by decide +kernel
theorem dX8_unwinds_43 : decode cX8_unwinds 43 = .ok (.iaload, 1) := by decide +kernel
theorem dX8_unwinds_44 : decode cX8_unwinds 44 = .ok (.istore_n 2, 1) := by decide +kernel
theorem dX8_unwinds_45 : decode cX8_unwinds 45 = .ok (.aload_n 0, 1) := by decide +kernel
theorem dX8_unwinds_46 : decode cX8_unwinds 46 = .ok (.dup, 1) := by decide +kernel
theorem dX8_unwinds_47 : decode cX8_unwinds 47 = .ok (.getfield 127, 3) := by decide +kernel
theorem dX8_unwinds_50 : decode cX8_unwinds 50 = .ok (.iload_n 2, 1) := by decide +kernel
theorem dX8_unwinds_51 : decode cX8_unwinds 51 = .ok (.bipush 13, 2) := by decide +kernel
theorem dX8_unwinds_53 : decode cX8_unwinds 53 = .ok (.if_icmp .eq 9, 3) := by decide +kernel
theorem dX8_unwinds_56 : decode cX8_unwinds 56 = .ok (.iload_n 2, 1) := by decide +kernel
theorem dX8_unwinds_57 : decode cX8_unwinds 57 = .ok (.bipush 19, 2) := by decide +kernel
theorem dX8_unwinds_59 : decode cX8_unwinds 59 = .ok (.if_icmp .ne 7, 3) := by decide +kernel
theorem dX8_unwinds_62 : decode cX8_unwinds 62 = .ok (.iconst 1, 1) := by decide +kernel
theorem dX8_unwinds_63 : decode cX8_unwinds 63 = .ok (.goto 4, 3) := by decide +kernel
theorem dX8_unwinds_66 : decode cX8_unwinds 66 = .ok (.iconst 0, 1) := by decide +kernel
theorem dX8_unwinds_67 : decode cX8_unwinds 67 = .ok (.isub, 1) := by decide +kernel
theorem dX8_unwinds_68 : decode cX8_unwinds 68 = .ok (.putfield 127, 3) := by decide +kernel
theorem dX8_unwinds_71 : decode cX8_unwinds 71 = .ok (.aload_n 0, 1) := by decide +kernel
theorem dX8_unwinds_72 : decode cX8_unwinds 72 = .ok (.iload_n 2, 1) := by decide +kernel
theorem dX8_unwinds_73 : decode cX8_unwinds 73 = .ok (.invokevirtual 130, 3) := by decide +kernel
theorem dX8_unwinds_76 : decode cX8_unwinds 76 = .ok (.goto (-76), 3) := by decide +kernel
theorem dX8_unwinds_79 : decode cX8_unwinds 79 = .ok (.return_, 1) := by decide +kernel
theorem dX8_holds_0 : decode cX8_holds 0 = .ok (.aload_n 0, 1) := by decide +kernel
theorem dX8_holds_1 : decode cX8_holds 1 = .ok (.getfield 52, 3) := by decide +kernel
theorem dX8_holds_4 : decode cX8_holds 4 = .ok (.aload_n 0, 1) := by decide +kernel
theorem dX8_holds_5 : decode cX8_holds 5 = .ok (.getfield 120, 3) := by decide +kernel
theorem dX8_holds_8 : decode cX8_holds 8 = .ok (.iload_n 1, 1) := by decide +kernel
theorem dX8_holds_9 : decode cX8_holds 9 = .ok (.iastore, 1) := by decide +kernel
theorem dX8_holds_10 : decode cX8_holds 10 = .ok (.aload_n 0, 1) := by decide +kernel
theorem dX8_holds_11 : decode cX8_holds 11 = .ok (.dup, 1) := by decide +kernel
theorem dX8_holds_12 : decode cX8_holds 12 = .ok (.getfield 120, 3) := by decide +kernel
theorem dX8_holds_15 : decode cX8_holds 15 = .ok (.iconst 1, 1) := by decide +kernel
theorem dX8_holds_16 : decode cX8_holds 16 = .ok (.iadd, 1) := by decide +kernel
theorem dX8_holds_17 : decode cX8_holds 17 = .ok (.putfield 120, 3) := by decide +kernel
theorem dX8_holds_20 : decode cX8_holds 20 = .ok (.return_, 1) := by decide +kernel
theorem dX8_opensOne_0 : decode cX8_opensOne 0 = .ok (.aload_n 0, 1) := by decide +kernel
theorem dX8_opensOne_1 : decode cX8_opensOne 1 = .ok (.getfield 127, 3) := by decide +kernel
theorem dX8_opensOne_4 : decode cX8_opensOne 4 = .ok (.iconst 5, 1) := by decide +kernel
theorem dX8_opensOne_5 : decode cX8_opensOne 5 = .ok (.if_icmp .ne 5, 3) := by decide +kernel
theorem dX8_opensOne_8 : decode cX8_opensOne 8 = .ok (.iconst 0, 1) := by decide +kernel
theorem dX8_opensOne_9 : decode cX8_opensOne 9 = .ok (.ireturn, 1) := by decide +kernel
theorem dX8_opensOne_10 : decode cX8_opensOne 10 = .ok (.aload_n 0, 1) := by decide +kernel
theorem dX8_opensOne_11 : decode cX8_opensOne 11 = .ok (.dup, 1) := by decide +kernel
theorem dX8_opensOne_12 : decode cX8_opensOne 12 = .ok (.getfield 127, 3) := by decide +kernel
theorem dX8_opensOne_15 : decode cX8_opensOne 15 = .ok (.iconst 1, 1) := by decide +kernel
theorem dX8_opensOne_16 : decode cX8_opensOne 16 = .ok (.iadd, 1) := by decide +kernel
theorem dX8_opensOne_17 : decode cX8_opensOne 17 = .ok (.putfield 127, 3) := by decide +kernel
theorem dX8_opensOne_20 : decode cX8_opensOne 20 = .ok (.aload_n 0, 1) := by decide +kernel
theorem dX8_opensOne_21 : decode cX8_opensOne 21 = .ok (.iload_n 1, 1) := by decide +kernel
theorem dX8_opensOne_22 : decode cX8_opensOne 22 = .ok (.invokevirtual 134, 3) := by decide +kernel
theorem dX8_opensOne_25 : decode cX8_opensOne 25 = .ok (.iconst 1, 1) := by decide +kernel
theorem dX8_opensOne_26 : decode cX8_opensOne 26 = .ok (.ireturn, 1) := by decide +kernel
theorem dX8_between_0 : decode cX8_between 0 = .ok (.aload_n 0, 1) := by decide +kernel
theorem dX8_between_1 : decode cX8_between 1 = .ok (.iload_n 1, 1) := by decide +kernel
theorem dX8_between_2 : decode cX8_between 2 = .ok (.invokestatic 123, 3) := by decide +kernel
theorem dX8_between_5 : decode cX8_between 5 = .ok (.iconst 4, 1) := by decide +kernel
theorem dX8_between_6 : decode cX8_between 6 = .ok (.if_icmp .ne 7, 3) := by decide +kernel
theorem dX8_between_9 : decode cX8_between 9 = .ok (.iconst 5, 1) := by decide +kernel
theorem dX8_between_10 : decode cX8_between 10 = .ok (.goto 7, 3) := by decide +kernel
theorem dX8_between_13 : decode cX8_between 13 = .ok (.iload_n 1, 1) := by decide +kernel
theorem dX8_between_14 : decode cX8_between 14 = .ok (.invokestatic 123, 3) := by decide +kernel
theorem dX8_between_17 : decode cX8_between 17 = .ok (.invokevirtual 137, 3) := by decide +kernel
theorem dX8_between_20 : decode cX8_between 20 = .ok (.iload_n 1, 1) := by decide +kernel
theorem dX8_between_21 : decode cX8_between 21 = .ok (.invokestatic 123, 3) := by decide +kernel
theorem dX8_between_24 : decode cX8_between 24 = .ok (.iconst 4, 1) := by decide +kernel
theorem dX8_between_25 : decode cX8_between 25 = .ok (.if_icmp .ne 30, 3) := by decide +kernel
theorem dX8_between_28 : decode cX8_between 28 = .ok (.aload_n 0, 1) := by decide +kernel
theorem dX8_between_29 : decode cX8_between 29 = .ok (.getfield 120, 3) := by decide +kernel
theorem dX8_between_32 : decode cX8_between 32 = .ok (.ifCond .le 23, 3) := by decide +kernel
theorem dX8_between_35 : decode cX8_between 35 = .ok (.aload_n 0, 1) := by decide +kernel
theorem dX8_between_36 : decode cX8_between 36 = .ok (.getfield 52, 3) := by decide +kernel
theorem dX8_between_39 : decode cX8_between 39 = .ok (.aload_n 0, 1) := by decide +kernel
theorem dX8_between_40 : decode cX8_between 40 = .ok (.getfield 120, 3) := by decide +kernel
theorem dX8_between_43 : decode cX8_between 43 = .ok (.iconst 1, 1) := by decide +kernel
theorem dX8_between_44 : decode cX8_between 44 = .ok (.isub, 1) := by decide +kernel
theorem dX8_between_45 : decode cX8_between 45 = .ok (.iaload, 1) := by decide +kernel
theorem dX8_between_46 : decode cX8_between 46 = .ok (.invokestatic 123, 3) := by decide +kernel
theorem dX8_between_49 : decode cX8_between 49 = .ok (.iconst 4, 1) := by decide +kernel
theorem dX8_between_50 : decode cX8_between 50 = .ok (.if_icmp .ne 5, 3) := by decide +kernel
theorem dX8_between_53 : decode cX8_between 53 = .ok (.iconst 0, 1) := by decide +kernel
theorem dX8_between_54 : decode cX8_between 54 = .ok (.ireturn, 1) := by decide +kernel
theorem dX8_between_55 : decode cX8_between 55 = .ok (.aload_n 0, 1) := by decide +kernel
theorem dX8_between_56 : decode cX8_between 56 = .ok (.iload_n 1, 1) := by decide +kernel
theorem dX8_between_57 : decode cX8_between 57 = .ok (.invokevirtual 134, 3) := by decide +kernel
theorem dX8_between_60 : decode cX8_between 60 = .ok (.iconst 1, 1) := by decide +kernel
theorem dX8_between_61 : decode cX8_between 61 = .ok (.ireturn, 1) := by decide +kernel
theorem dX8_signOf_0 : decode cX8_signOf 0 = .ok (.aload_n 0, 1) := by decide +kernel
theorem dX8_signOf_1 : decode cX8_signOf 1 = .ok (.getfield 107, 3) := by decide +kernel
theorem dX8_signOf_4 : decode cX8_signOf 4 = .ok (.iconst 4, 1) := by decide +kernel
theorem dX8_signOf_5 : decode cX8_signOf 5 = .ok (.if_icmp .ne 8, 3) := by decide +kernel
theorem dX8_signOf_8 : decode cX8_signOf 8 = .ok (.bipush 11, 2) := by decide +kernel
theorem dX8_signOf_10 : decode cX8_signOf 10 = .ok (.goto 87, 3) := by decide +kernel
theorem dX8_signOf_13 : decode cX8_signOf 13 = .ok (.aload_n 0, 1) := by decide +kernel
theorem dX8_signOf_14 : decode cX8_signOf 14 = .ok (.getfield 107, 3) := by decide +kernel
theorem dX8_signOf_17 : decode cX8_signOf 17 = .ok (.iconst 5, 1) := by decide +kernel
theorem dX8_signOf_18 : decode cX8_signOf 18 = .ok (.if_icmp .ne 8, 3) := by decide +kernel
theorem dX8_signOf_21 : decode cX8_signOf 21 = .ok (.bipush 12, 2) := by decide +kernel
theorem dX8_signOf_23 : decode cX8_signOf 23 = .ok (.goto 74, 3) := by decide +kernel
theorem dX8_signOf_26 : decode cX8_signOf 26 = .ok (.aload_n 0, 1) := by decide +kernel
theorem dX8_signOf_27 : decode cX8_signOf 27 = .ok (.getfield 107, 3) := by decide +kernel
theorem dX8_signOf_30 : decode cX8_signOf 30 = .ok (.bipush 60, 2) := by decide +kernel
theorem dX8_signOf_32 : decode cX8_signOf 32 = .ok (.if_icmp .ne 8, 3) := by decide +kernel
theorem dX8_signOf_35 : decode cX8_signOf 35 = .ok (.bipush 14, 2) := by decide +kernel
theorem dX8_signOf_37 : decode cX8_signOf 37 = .ok (.goto 60, 3) := by decide +kernel
theorem dX8_signOf_40 : decode cX8_signOf 40 = .ok (.aload_n 0, 1) := by decide +kernel
theorem dX8_signOf_41 : decode cX8_signOf 41 = .ok (.getfield 107, 3) := by decide +kernel
theorem dX8_signOf_44 : decode cX8_signOf 44 = .ok (.bipush 61, 2) := by decide +kernel
theorem dX8_signOf_46 : decode cX8_signOf 46 = .ok (.if_icmp .ne 8, 3) := by decide +kernel
theorem dX8_signOf_49 : decode cX8_signOf 49 = .ok (.bipush 15, 2) := by decide +kernel
theorem dX8_signOf_51 : decode cX8_signOf 51 = .ok (.goto 46, 3) := by decide +kernel
theorem dX8_signOf_54 : decode cX8_signOf 54 = .ok (.aload_n 0, 1) := by decide +kernel
theorem dX8_signOf_55 : decode cX8_signOf 55 = .ok (.getfield 107, 3) := by decide +kernel
theorem dX8_signOf_58 : decode cX8_signOf 58 = .ok (.bipush 43, 2) := by decide +kernel
theorem dX8_signOf_60 : decode cX8_signOf 60 = .ok (.if_icmp .ne 8, 3) := by decide +kernel
theorem dX8_signOf_63 : decode cX8_signOf 63 = .ok (.bipush 16, 2) := by decide +kernel
theorem dX8_signOf_65 : decode cX8_signOf 65 = .ok (.goto 32, 3) := by decide +kernel
theorem dX8_signOf_68 : decode cX8_signOf 68 = .ok (.aload_n 0, 1) := by decide +kernel
theorem dX8_signOf_69 : decode cX8_signOf 69 = .ok (.getfield 107, 3) := by decide +kernel
theorem dX8_signOf_72 : decode cX8_signOf 72 = .ok (.bipush 45, 2) := by decide +kernel
theorem dX8_signOf_74 : decode cX8_signOf 74 = .ok (.if_icmp .ne 8, 3) := by decide +kernel
theorem dX8_signOf_77 : decode cX8_signOf 77 = .ok (.bipush 17, 2) := by decide +kernel
theorem dX8_signOf_79 : decode cX8_signOf 79 = .ok (.goto 18, 3) := by decide +kernel
theorem dX8_signOf_82 : decode cX8_signOf 82 = .ok (.aload_n 0, 1) := by decide +kernel
theorem dX8_signOf_83 : decode cX8_signOf 83 = .ok (.getfield 107, 3) := by decide +kernel
theorem dX8_signOf_86 : decode cX8_signOf 86 = .ok (.bipush 42, 2) := by decide +kernel
theorem dX8_signOf_88 : decode cX8_signOf 88 = .ok (.if_icmp .ne 8, 3) := by decide +kernel
theorem dX8_signOf_91 : decode cX8_signOf 91 = .ok (.bipush 18, 2) := by decide +kernel
theorem dX8_signOf_93 : decode cX8_signOf 93 = .ok (.goto 4, 3) := by decide +kernel
theorem dX8_signOf_96 : decode cX8_signOf 96 = .ok (.iconst (-1), 1) := by decide +kernel
theorem dX8_signOf_97 : decode cX8_signOf 97 = .ok (.ireturn, 1) := by decide +kernel
theorem dX8_eRead_0 : decode cX8_eRead 0 = .ok (.aload_n 0, 1) := by decide +kernel
theorem dX8_eRead_1 : decode cX8_eRead 1 = .ok (.iconst 0, 1) := by decide +kernel
theorem dX8_eRead_2 : decode cX8_eRead 2 = .ok (.putfield 120, 3) := by decide +kernel
theorem dX8_eRead_5 : decode cX8_eRead 5 = .ok (.aload_n 0, 1) := by decide +kernel
theorem dX8_eRead_6 : decode cX8_eRead 6 = .ok (.iconst 0, 1) := by decide +kernel
theorem dX8_eRead_7 : decode cX8_eRead 7 = .ok (.putfield 127, 3) := by decide +kernel
theorem dX8_eRead_10 : decode cX8_eRead 10 = .ok (.iconst 1, 1) := by decide +kernel
theorem dX8_eRead_11 : decode cX8_eRead 11 = .ok (.istore_n 1, 1) := by decide +kernel
theorem dX8_eRead_12 : decode cX8_eRead 12 = .ok (.iconst 1, 1) := by decide +kernel
theorem dX8_eRead_13 : decode cX8_eRead 13 = .ok (.istore_n 2, 1) := by decide +kernel
theorem dX8_eRead_14 : decode cX8_eRead 14 = .ok (.aload_n 0, 1) := by decide +kernel
theorem dX8_eRead_15 : decode cX8_eRead 15 = .ok (.invokevirtual 140, 3) := by decide +kernel
theorem dX8_eRead_18 : decode cX8_eRead 18 = .ok (.iload_n 1, 1) := by decide +kernel
theorem dX8_eRead_19 : decode cX8_eRead 19 = .ok (.ifCond .eq 131, 3) := by decide +kernel
theorem dX8_eRead_22 : decode cX8_eRead 22 = .ok (.aload_n 0, 1) := by decide +kernel
theorem dX8_eRead_23 : decode cX8_eRead 23 = .ok (.getfield 107, 3) := by decide +kernel
theorem dX8_eRead_26 : decode cX8_eRead 26 = .ok (.iconst 1, 1) := by decide +kernel
theorem dX8_eRead_27 : decode cX8_eRead 27 = .ok (.if_icmp .eq 11, 3) := by decide +kernel
theorem dX8_eRead_30 : decode cX8_eRead 30 = .ok (.aload_n 0, 1) := by decide +kernel
theorem dX8_eRead_31 : decode cX8_eRead 31 = .ok (.getfield 107, 3) := by decide +kernel
theorem dX8_eRead_34 : decode cX8_eRead 34 = .ok (.iconst 2, 1) := by decide +kernel
theorem dX8_eRead_35 : decode cX8_eRead 35 = .ok (.if_icmp .ne 40, 3) := by decide +kernel
theorem dX8_eRead_38 : decode cX8_eRead 38 = .ok (.aload_n 0, 1) := by decide +kernel
theorem dX8_eRead_39 : decode cX8_eRead 39 = .ok (.aload_n 0, 1) := by decide +kernel
theorem dX8_eRead_40 : decode cX8_eRead 40 = .ok (.getfield 107, 3) := by decide +kernel
theorem dX8_eRead_43 : decode cX8_eRead 43 = .ok (.iconst 1, 1) := by decide +kernel
theorem dX8_eRead_44 : decode cX8_eRead 44 = .ok (.if_icmp .ne 13, 3) := by decide +kernel
theorem dX8_eRead_47 : decode cX8_eRead 47 = .ok (.ldc 143, 2) := by decide +kernel
theorem dX8_eRead_49 : decode cX8_eRead 49 = .ok (.aload_n 0, 1) := by decide +kernel
theorem dX8_eRead_50 : decode cX8_eRead 50 = .ok (.getfield 110, 3) := by decide +kernel
theorem dX8_eRead_53 : decode cX8_eRead 53 = .ok (.iadd, 1) := by decide +kernel
theorem dX8_eRead_54 : decode cX8_eRead 54 = .ok (.goto 7, 3) := by decide +kernel
theorem dX8_eRead_57 : decode cX8_eRead 57 = .ok (.aload_n 0, 1) := by decide +kernel
theorem dX8_eRead_58 : decode cX8_eRead 58 = .ok (.getfield 110, 3) := by decide +kernel
theorem dX8_eRead_61 : decode cX8_eRead 61 = .ok (.invokevirtual 130, 3) := by decide +kernel
theorem dX8_eRead_64 : decode cX8_eRead 64 = .ok (.aload_n 0, 1) := by decide +kernel
theorem dX8_eRead_65 : decode cX8_eRead 65 = .ok (.bipush 7, 2) := by decide +kernel
theorem dX8_eRead_67 : decode cX8_eRead 67 = .ok (.invokevirtual 137, 3) := by decide +kernel
theorem dX8_eRead_70 : decode cX8_eRead 70 = .ok (.iconst 0, 1) := by decide +kernel
theorem dX8_eRead_71 : decode cX8_eRead 71 = .ok (.istore_n 1, 1) := by decide +kernel
theorem dX8_eRead_72 : decode cX8_eRead 72 = .ok (.goto (-58), 3) := by decide +kernel
theorem dX8_eRead_75 : decode cX8_eRead 75 = .ok (.aload_n 0, 1) := by decide +kernel
theorem dX8_eRead_76 : decode cX8_eRead 76 = .ok (.getfield 107, 3) := by decide +kernel
theorem dX8_eRead_79 : decode cX8_eRead 79 = .ok (.bipush 6, 2) := by decide +kernel
theorem dX8_eRead_81 : decode cX8_eRead 81 = .ok (.if_icmp .ne 18, 3) := by decide +kernel
theorem dX8_eRead_84 : decode cX8_eRead 84 = .ok (.iload_n 2, 1) := by decide +kernel
theorem dX8_eRead_85 : decode cX8_eRead 85 = .ok (.ifCond .eq 14, 3) := by decide +kernel
theorem dX8_eRead_88 : decode cX8_eRead 88 = .ok (.aload_n 0, 1) := by decide +kernel
theorem dX8_eRead_89 : decode cX8_eRead 89 = .ok (.bipush 13, 2) := by decide +kernel
theorem dX8_eRead_91 : decode cX8_eRead 91 = .ok (.invokevirtual 144, 3) := by decide +kernel
theorem dX8_eRead_94 : decode cX8_eRead 94 = .ok (.ifCond .ne (-80), 3) := by decide +kernel
theorem dX8_eRead_97 : decode cX8_eRead 97 = .ok (.iconst 0, 1) := by decide +kernel
theorem dX8_eRead_98 : decode cX8_eRead 98 = .ok (.ireturn, 1) := by decide +kernel
theorem dX8_eRead_99 : decode cX8_eRead 99 = .ok (.aload_n 0, 1) := by decide +kernel
theorem dX8_eRead_100 : decode cX8_eRead 100 = .ok (.getfield 107, 3) := by decide +kernel
theorem dX8_eRead_103 : decode cX8_eRead 103 = .ok (.bipush 45, 2) := by decide +kernel
theorem dX8_eRead_105 : decode cX8_eRead 105 = .ok (.if_icmp .ne 19, 3) := by decide +kernel
theorem dX8_eRead_108 : decode cX8_eRead 108 = .ok (.aload_n 0, 1) := by decide +kernel
theorem dX8_eRead_109 : decode cX8_eRead 109 = .ok (.bipush 19, 2) := by decide +kernel
theorem dX8_eRead_111 : decode cX8_eRead 111 = .ok (.invokevirtual 144, 3) := by decide +kernel
theorem dX8_eRead_114 : decode cX8_eRead 114 = .ok (.ifCond .ne 5, 3) := by decide +kernel
theorem dX8_eRead_117 : decode cX8_eRead 117 = .ok (.iconst 0, 1) := by decide +kernel
theorem dX8_eRead_118 : decode cX8_eRead 118 = .ok (.ireturn, 1) := by decide +kernel
theorem dX8_eRead_119 : decode cX8_eRead 119 = .ok (.iconst 0, 1) := by decide +kernel
theorem dX8_eRead_120 : decode cX8_eRead 120 = .ok (.istore_n 2, 1) := by decide +kernel
theorem dX8_eRead_121 : decode cX8_eRead 121 = .ok (.goto (-107), 3) := by decide +kernel
theorem dX8_eRead_124 : decode cX8_eRead 124 = .ok (.aload_n 0, 1) := by decide +kernel
theorem dX8_eRead_125 : decode cX8_eRead 125 = .ok (.getfield 107, 3) := by decide +kernel
theorem dX8_eRead_128 : decode cX8_eRead 128 = .ok (.bipush 40, 2) := by decide +kernel
theorem dX8_eRead_130 : decode cX8_eRead 130 = .ok (.if_icmp .ne 18, 3) := by decide +kernel
theorem dX8_eRead_133 : decode cX8_eRead 133 = .ok (.aload_n 0, 1) := by decide +kernel
theorem dX8_eRead_134 : decode cX8_eRead 134 = .ok (.iconst 0, 1) := by decide +kernel
theorem dX8_eRead_135 : decode cX8_eRead 135 = .ok (.invokevirtual 144, 3) := by decide +kernel
theorem dX8_eRead_138 : decode cX8_eRead 138 = .ok (.ifCond .ne 5, 3) := by decide +kernel
theorem dX8_eRead_141 : decode cX8_eRead 141 = .ok (.iconst 0, 1) := by decide +kernel
theorem dX8_eRead_142 : decode cX8_eRead 142 = .ok (.ireturn, 1) := by decide +kernel
theorem dX8_eRead_143 : decode cX8_eRead 143 = .ok (.iconst 1, 1) := by decide +kernel
theorem dX8_eRead_144 : decode cX8_eRead 144 = .ok (.istore_n 2, 1) := by decide +kernel
theorem dX8_eRead_145 : decode cX8_eRead 145 = .ok (.goto (-131), 3) := by decide +kernel
theorem dX8_eRead_148 : decode cX8_eRead 148 = .ok (.iconst 0, 1) := by decide +kernel
theorem dX8_eRead_149 : decode cX8_eRead 149 = .ok (.ireturn, 1) := by decide +kernel
theorem dX8_eRead_150 : decode cX8_eRead 150 = .ok (.aload_n 0, 1) := by decide +kernel
theorem dX8_eRead_151 : decode cX8_eRead 151 = .ok (.getfield 107, 3) := by decide +kernel
theorem dX8_eRead_154 : decode cX8_eRead 154 = .ok (.bipush 59, 2) := by decide +kernel
theorem dX8_eRead_156 : decode cX8_eRead 156 = .ok (.if_icmp .ne 21, 3) := by decide +kernel
theorem dX8_eRead_159 : decode cX8_eRead 159 = .ok (.aload_n 0, 1) := by decide +kernel
theorem dX8_eRead_160 : decode cX8_eRead 160 = .ok (.iconst 1, 1) := by decide +kernel
theorem dX8_eRead_161 : decode cX8_eRead 161 = .ok (.invokevirtual 137, 3) := by decide +kernel
theorem dX8_eRead_164 : decode cX8_eRead 164 = .ok (.aload_n 0, 1) := by decide +kernel
theorem dX8_eRead_165 : decode cX8_eRead 165 = .ok (.getfield 120, 3) := by decide +kernel
theorem dX8_eRead_168 : decode cX8_eRead 168 = .ok (.ifCond .ne 7, 3) := by decide +kernel
theorem dX8_eRead_171 : decode cX8_eRead 171 = .ok (.iconst 1, 1) := by decide +kernel
theorem dX8_eRead_172 : decode cX8_eRead 172 = .ok (.goto 4, 3) := by decide +kernel
theorem dX8_eRead_175 : decode cX8_eRead 175 = .ok (.iconst 0, 1) := by decide +kernel
theorem dX8_eRead_176 : decode cX8_eRead 176 = .ok (.ireturn, 1) := by decide +kernel
theorem dX8_eRead_177 : decode cX8_eRead 177 = .ok (.aload_n 0, 1) := by decide +kernel
theorem dX8_eRead_178 : decode cX8_eRead 178 = .ok (.getfield 107, 3) := by decide +kernel
theorem dX8_eRead_181 : decode cX8_eRead 181 = .ok (.bipush 41, 2) := by decide +kernel
theorem dX8_eRead_183 : decode cX8_eRead 183 = .ok (.if_icmp .ne 46, 3) := by decide +kernel
theorem dX8_eRead_186 : decode cX8_eRead 186 = .ok (.aload_n 0, 1) := by decide +kernel
theorem dX8_eRead_187 : decode cX8_eRead 187 = .ok (.iconst 1, 1) := by decide +kernel
theorem dX8_eRead_188 : decode cX8_eRead 188 = .ok (.invokevirtual 137, 3) := by decide +kernel
theorem dX8_eRead_191 : decode cX8_eRead 191 = .ok (.aload_n 0, 1) := by decide +kernel
theorem dX8_eRead_192 : decode cX8_eRead 192 = .ok (.getfield 120, 3) := by decide +kernel
theorem dX8_eRead_195 : decode cX8_eRead 195 = .ok (.ifCond .ne 5, 3) := by decide +kernel
theorem dX8_eRead_198 : decode cX8_eRead 198 = .ok (.iconst 0, 1) := by decide +kernel
theorem dX8_eRead_199 : decode cX8_eRead 199 = .ok (.ireturn, 1) := by decide +kernel
theorem dX8_eRead_200 : decode cX8_eRead 200 = .ok (.aload_n 0, 1) := by decide +kernel
theorem dX8_eRead_201 : decode cX8_eRead 201 = .ok (.dup, 1) := by decide +kernel
theorem dX8_eRead_202 : decode cX8_eRead 202 = .ok (.getfield 120, 3) := by decide +kernel
theorem dX8_eRead_205 : decode cX8_eRead 205 = .ok (.iconst 1, 1) := by decide +kernel
theorem dX8_eRead_206 : decode cX8_eRead 206 = .ok (.isub, 1) := by decide +kernel
theorem dX8_eRead_207 : decode cX8_eRead 207 = .ok (.putfield 120, 3) := by decide +kernel
theorem dX8_eRead_210 : decode cX8_eRead 210 = .ok (.aload_n 0, 1) := by decide +kernel
theorem dX8_eRead_211 : decode cX8_eRead 211 = .ok (.dup, 1) := by decide +kernel
theorem dX8_eRead_212 : decode cX8_eRead 212 = .ok (.getfield 127, 3) := by decide +kernel
theorem dX8_eRead_215 : decode cX8_eRead 215 = .ok (.iconst 1, 1) := by decide +kernel
theorem dX8_eRead_216 : decode cX8_eRead 216 = .ok (.isub, 1) := by decide +kernel
theorem dX8_eRead_217 : decode cX8_eRead 217 = .ok (.putfield 127, 3) := by decide +kernel
theorem dX8_eRead_220 : decode cX8_eRead 220 = .ok (.aload_n 0, 1) := by decide +kernel
theorem dX8_eRead_221 : decode cX8_eRead 221 = .ok (.bipush 7, 2) := by decide +kernel
theorem dX8_eRead_223 : decode cX8_eRead 223 = .ok (.invokevirtual 137, 3) := by decide +kernel
theorem dX8_eRead_226 : decode cX8_eRead 226 = .ok (.goto (-212), 3) := by decide +kernel
theorem dX8_eRead_229 : decode cX8_eRead 229 = .ok (.aload_n 0, 1) := by decide +kernel
theorem dX8_eRead_230 : decode cX8_eRead 230 = .ok (.invokevirtual 147, 3) := by decide +kernel
theorem dX8_eRead_233 : decode cX8_eRead 233 = .ok (.istore_n 3, 1) := by decide +kernel
theorem dX8_eRead_234 : decode cX8_eRead 234 = .ok (.iload_n 3, 1) := by decide +kernel
theorem dX8_eRead_235 : decode cX8_eRead 235 = .ok (.iconst (-1), 1) := by decide +kernel
theorem dX8_eRead_236 : decode cX8_eRead 236 = .ok (.if_icmp .eq 11, 3) := by decide +kernel
theorem dX8_eRead_239 : decode cX8_eRead 239 = .ok (.aload_n 0, 1) := by decide +kernel
theorem dX8_eRead_240 : decode cX8_eRead 240 = .ok (.iload_n 3, 1) := by decide +kernel
theorem dX8_eRead_241 : decode cX8_eRead 241 = .ok (.invokevirtual 150, 3) := by decide +kernel
theorem dX8_eRead_244 : decode cX8_eRead 244 = .ok (.ifCond .ne 5, 3) := by decide +kernel
theorem dX8_eRead_247 : decode cX8_eRead 247 = .ok (.iconst 0, 1) := by decide +kernel
theorem dX8_eRead_248 : decode cX8_eRead 248 = .ok (.ireturn, 1) := by decide +kernel
theorem dX8_eRead_249 : decode cX8_eRead 249 = .ok (.iconst 1, 1) := by decide +kernel
theorem dX8_eRead_250 : decode cX8_eRead 250 = .ok (.istore_n 1, 1) := by decide +kernel
theorem dX8_eRead_251 : decode cX8_eRead 251 = .ok (.iload_n 3, 1) := by decide +kernel
theorem dX8_eRead_252 : decode cX8_eRead 252 = .ok (.bipush 12, 2) := by decide +kernel
theorem dX8_eRead_254 : decode cX8_eRead 254 = .ok (.if_icmp .gt 7, 3) := by decide +kernel
theorem dX8_eRead_257 : decode cX8_eRead 257 = .ok (.iconst 1, 1) := by decide +kernel
theorem dX8_eRead_258 : decode cX8_eRead 258 = .ok (.goto 4, 3) := by decide +kernel
theorem dX8_eRead_261 : decode cX8_eRead 261 = .ok (.iconst 0, 1) := by decide +kernel
theorem dX8_eRead_262 : decode cX8_eRead 262 = .ok (.istore_n 2, 1) := by decide +kernel
theorem dX8_eRead_263 : decode cX8_eRead 263 = .ok (.goto (-249), 3) := by decide +kernel
theorem dX8_text_0 : decode cX8_text 0 = .ok (.aload_n 0, 1) := by decide +kernel
theorem dX8_text_1 : decode cX8_text 1 = .ok (.getfield 91, 3) := by decide +kernel
theorem dX8_text_4 : decode cX8_text 4 = .ok (.bipush 6, 2) := by decide +kernel
theorem dX8_text_6 : decode cX8_text 6 = .ok (.if_icmp .ne 6, 3) := by decide +kernel
theorem dX8_text_9 : decode cX8_text 9 = .ok (.bipush (-4), 2) := by decide +kernel
theorem dX8_text_11 : decode cX8_text 11 = .ok (.ireturn, 1) := by decide +kernel
theorem dX8_text_12 : decode cX8_text 12 = .ok (.aload_n 0, 1) := by decide +kernel
theorem dX8_text_13 : decode cX8_text 13 = .ok (.iconst 0, 1) := by decide +kernel
theorem dX8_text_14 : decode cX8_text 14 = .ok (.putfield 101, 3) := by decide +kernel
theorem dX8_text_17 : decode cX8_text 17 = .ok (.aload_n 0, 1) := by decide +kernel
theorem dX8_text_18 : decode cX8_text 18 = .ok (.iconst 0, 1) := by decide +kernel
theorem dX8_text_19 : decode cX8_text 19 = .ok (.putfield 117, 3) := by decide +kernel
theorem dX8_text_22 : decode cX8_text 22 = .ok (.iconst 1, 1) := by decide +kernel
theorem dX8_text_23 : decode cX8_text 23 = .ok (.istore_n 1, 1) := by decide +kernel
theorem dX8_text_24 : decode cX8_text 24 = .ok (.iconst 0, 1) := by decide +kernel
theorem dX8_text_25 : decode cX8_text 25 = .ok (.istore_n 2, 1) := by decide +kernel
theorem dX8_text_26 : decode cX8_text 26 = .ok (.iload_n 2, 1) := by decide +kernel
theorem dX8_text_27 : decode cX8_text 27 = .ok (.iconst 3, 1) := by decide +kernel
theorem dX8_text_28 : decode cX8_text 28 = .ok (.if_icmp .ge 73, 3) := by decide +kernel
theorem dX8_text_31 : decode cX8_text 31 = .ok (.iload_n 1, 1) := by decide +kernel
theorem dX8_text_32 : decode cX8_text 32 = .ok (.ifCond .eq 69, 3) := by decide +kernel
theorem dX8_text_35 : decode cX8_text 35 = .ok (.aload_n 0, 1) := by decide +kernel
theorem dX8_text_36 : decode cX8_text 36 = .ok (.invokevirtual 140, 3) := by decide +kernel
theorem dX8_text_39 : decode cX8_text 39 = .ok (.aload_n 0, 1) := by decide +kernel
theorem dX8_text_40 : decode cX8_text 40 = .ok (.getfield 107, 3) := by decide +kernel
theorem dX8_text_43 : decode cX8_text 43 = .ok (.iconst 3, 1) := by decide +kernel
theorem dX8_text_44 : decode cX8_text 44 = .ok (.if_icmp .ne 15, 3) := by decide +kernel
theorem dX8_text_47 : decode cX8_text 47 = .ok (.aload_n 0, 1) := by decide +kernel
theorem dX8_text_48 : decode cX8_text 48 = .ok (.getfield 110, 3) := by decide +kernel
theorem dX8_text_51 : decode cX8_text 51 = .ok (.iload_n 2, 1) := by decide +kernel
theorem dX8_text_52 : decode cX8_text 52 = .ok (.if_icmp .ne 7, 3) := by decide +kernel
theorem dX8_text_55 : decode cX8_text 55 = .ok (.iconst 1, 1) := by decide +kernel
theorem dX8_text_56 : decode cX8_text 56 = .ok (.goto 4, 3) := by decide +kernel
theorem dX8_text_59 : decode cX8_text 59 = .ok (.iconst 0, 1) := by decide +kernel
theorem dX8_text_60 : decode cX8_text 60 = .ok (.istore_n 1, 1) := by decide +kernel
theorem dX8_text_61 : decode cX8_text 61 = .ok (.aload_n 0, 1) := by decide +kernel
theorem dX8_text_62 : decode cX8_text 62 = .ok (.getfield 31, 3) := by decide +kernel
theorem dX8_text_65 : decode cX8_text 65 = .ok (.iconst 4, 1) := by decide +kernel
theorem dX8_text_66 : decode cX8_text 66 = .ok (.aload_n 0, 1) := by decide +kernel
theorem dX8_text_67 : decode cX8_text 67 = .ok (.getfield 91, 3) := by decide +kernel
theorem dX8_text_70 : decode cX8_text 70 = .ok (.imul, 1) := by decide +kernel
theorem dX8_text_71 : decode cX8_text 71 = .ok (.iload_n 2, 1) := by decide +kernel
theorem dX8_text_72 : decode cX8_text 72 = .ok (.iadd, 1) := by decide +kernel
theorem dX8_text_73 : decode cX8_text 73 = .ok (.aload_n 0, 1) := by decide +kernel
theorem dX8_text_74 : decode cX8_text 74 = .ok (.getfield 117, 3) := by decide +kernel
theorem dX8_text_77 : decode cX8_text 77 = .ok (.iastore, 1) := by decide +kernel
theorem dX8_text_78 : decode cX8_text 78 = .ok (.iload_n 1, 1) := by decide +kernel
theorem dX8_text_79 : decode cX8_text 79 = .ok (.ifCond .eq 14, 3) := by decide +kernel
theorem dX8_text_82 : decode cX8_text 82 = .ok (.aload_n 0, 1) := by decide +kernel
theorem dX8_text_83 : decode cX8_text 83 = .ok (.invokevirtual 153, 3) := by decide +kernel
theorem dX8_text_86 : decode cX8_text 86 = .ok (.ifCond .eq 7, 3) := by decide +kernel
theorem dX8_text_89 : decode cX8_text 89 = .ok (.iconst 1, 1) := by decide +kernel
theorem dX8_text_90 : decode cX8_text 90 = .ok (.goto 4, 3) := by decide +kernel
theorem dX8_text_93 : decode cX8_text 93 = .ok (.iconst 0, 1) := by decide +kernel
theorem dX8_text_94 : decode cX8_text 94 = .ok (.istore_n 1, 1) := by decide +kernel
theorem dX8_text_95 : decode cX8_text 95 = .ok (.iinc 2 1, 3) := by decide +kernel
theorem dX8_text_98 : decode cX8_text 98 = .ok (.goto (-72), 3) := by decide +kernel
theorem dX8_text_101 : decode cX8_text 101 = .ok (.iload_n 1, 1) := by decide +kernel
theorem dX8_text_102 : decode cX8_text 102 = .ok (.ifCond .eq 20, 3) := by decide +kernel
theorem dX8_text_105 : decode cX8_text 105 = .ok (.aload_n 0, 1) := by decide +kernel
theorem dX8_text_106 : decode cX8_text 106 = .ok (.invokevirtual 140, 3) := by decide +kernel
theorem dX8_text_109 : decode cX8_text 109 = .ok (.aload_n 0, 1) := by decide +kernel
theorem dX8_text_110 : decode cX8_text 110 = .ok (.getfield 107, 3) := by decide +kernel
theorem dX8_text_113 : decode cX8_text 113 = .ok (.ifCond .ne 7, 3) := by decide +kernel
theorem dX8_text_116 : decode cX8_text 116 = .ok (.iconst 1, 1) := by decide +kernel
theorem dX8_text_117 : decode cX8_text 117 = .ok (.goto 4, 3) := by decide +kernel
theorem dX8_text_120 : decode cX8_text 120 = .ok (.iconst 0, 1) := by decide +kernel
theorem dX8_text_121 : decode cX8_text 121 = .ok (.istore_n 1, 1) := by decide +kernel
theorem dX8_text_122 : decode cX8_text 122 = .ok (.aload_n 0, 1) := by decide +kernel
theorem dX8_text_123 : decode cX8_text 123 = .ok (.getfield 31, 3) := by decide +kernel
theorem dX8_text_126 : decode cX8_text 126 = .ok (.iconst 4, 1) := by decide +kernel
theorem dX8_text_127 : decode cX8_text 127 = .ok (.aload_n 0, 1) := by decide +kernel
theorem dX8_text_128 : decode cX8_text 128 = .ok (.getfield 91, 3) := by decide +kernel
theorem dX8_text_131 : decode cX8_text 131 = .ok (.imul, 1) := by decide +kernel
theorem dX8_text_132 : decode cX8_text 132 = .ok (.iconst 3, 1) := by decide +kernel
theorem dX8_text_133 : decode cX8_text 133 = .ok (.iadd, 1) := by decide +kernel
theorem dX8_text_134 : decode cX8_text 134 = .ok (.aload_n 0, 1) := by decide +kernel
theorem dX8_text_135 : decode cX8_text 135 = .ok (.getfield 117, 3) := by decide +kernel
theorem dX8_text_138 : decode cX8_text 138 = .ok (.iastore, 1) := by decide +kernel
theorem dX8_text_139 : decode cX8_text 139 = .ok (.aload_n 0, 1) := by decide +kernel
theorem dX8_text_140 : decode cX8_text 140 = .ok (.iconst 0, 1) := by decide +kernel
theorem dX8_text_141 : decode cX8_text 141 = .ok (.putfield 67, 3) := by decide +kernel
theorem dX8_text_144 : decode cX8_text 144 = .ok (.iload_n 1, 1) := by decide +kernel
theorem dX8_text_145 : decode cX8_text 145 = .ok (.ifCond .ne 11, 3) := by decide +kernel
theorem dX8_text_148 : decode cX8_text 148 = .ok (.bipush (-100), 2) := by decide +kernel
theorem dX8_text_150 : decode cX8_text 150 = .ok (.aload_n 0, 1) := by decide +kernel
theorem dX8_text_151 : decode cX8_text 151 = .ok (.getfield 104, 3) := by decide +kernel
theorem dX8_text_154 : decode cX8_text 154 = .ok (.isub, 1) := by decide +kernel
theorem dX8_text_155 : decode cX8_text 155 = .ok (.ireturn, 1) := by decide +kernel
theorem dX8_text_156 : decode cX8_text 156 = .ok (.aload_n 0, 1) := by decide +kernel
theorem dX8_text_157 : decode cX8_text 157 = .ok (.dup, 1) := by decide +kernel
theorem dX8_text_158 : decode cX8_text 158 = .ok (.getfield 91, 3) := by decide +kernel
theorem dX8_text_161 : decode cX8_text 161 = .ok (.iconst 1, 1) := by decide +kernel
theorem dX8_text_162 : decode cX8_text 162 = .ok (.iadd, 1) := by decide +kernel
theorem dX8_text_163 : decode cX8_text 163 = .ok (.putfield 91, 3) := by decide +kernel
theorem dX8_text_166 : decode cX8_text 166 = .ok (.aload_n 0, 1) := by decide +kernel
theorem dX8_text_167 : decode cX8_text 167 = .ok (.getfield 91, 3) := by decide +kernel
theorem dX8_text_170 : decode cX8_text 170 = .ok (.iconst 1, 1) := by decide +kernel
theorem dX8_text_171 : decode cX8_text 171 = .ok (.isub, 1) := by decide +kernel
theorem dX8_text_172 : decode cX8_text 172 = .ok (.ireturn, 1) := by decide +kernel
theorem dX8_two_0 : decode cX8_two 0 = .ok (.iload_n 0, 1) := by decide +kernel
theorem dX8_two_1 : decode cX8_two 1 = .ok (.tableswitch 101 11 17 #[43, 57, 101, 71, 82, 93, 97], 43) := by decide +kernel
theorem dX8_two_44 : decode cX8_two 44 = .ok (.iload_n 1, 1) := by decide +kernel
theorem dX8_two_45 : decode cX8_two 45 = .ok (.ifCond .ne 7, 3) := by decide +kernel
theorem dX8_two_48 : decode cX8_two 48 = .ok (.iload_n 2, 1) := by decide +kernel
theorem dX8_two_49 : decode cX8_two 49 = .ok (.ifCond .eq 7, 3) := by decide +kernel
theorem dX8_two_52 : decode cX8_two 52 = .ok (.iconst 1, 1) := by decide +kernel
theorem dX8_two_53 : decode cX8_two 53 = .ok (.goto 4, 3) := by decide +kernel
theorem dX8_two_56 : decode cX8_two 56 = .ok (.iconst 0, 1) := by decide +kernel
theorem dX8_two_57 : decode cX8_two 57 = .ok (.ireturn, 1) := by decide +kernel
theorem dX8_two_58 : decode cX8_two 58 = .ok (.iload_n 1, 1) := by decide +kernel
theorem dX8_two_59 : decode cX8_two 59 = .ok (.ifCond .eq 11, 3) := by decide +kernel
theorem dX8_two_62 : decode cX8_two 62 = .ok (.iload_n 2, 1) := by decide +kernel
theorem dX8_two_63 : decode cX8_two 63 = .ok (.ifCond .eq 7, 3) := by decide +kernel
theorem dX8_two_66 : decode cX8_two 66 = .ok (.iconst 1, 1) := by decide +kernel
theorem dX8_two_67 : decode cX8_two 67 = .ok (.goto 4, 3) := by decide +kernel
theorem dX8_two_70 : decode cX8_two 70 = .ok (.iconst 0, 1) := by decide +kernel
theorem dX8_two_71 : decode cX8_two 71 = .ok (.ireturn, 1) := by decide +kernel
theorem dX8_two_72 : decode cX8_two 72 = .ok (.iload_n 1, 1) := by decide +kernel
theorem dX8_two_73 : decode cX8_two 73 = .ok (.iload_n 2, 1) := by decide +kernel
theorem dX8_two_74 : decode cX8_two 74 = .ok (.if_icmp .ge 7, 3) := by decide +kernel
theorem dX8_two_77 : decode cX8_two 77 = .ok (.iconst 1, 1) := by decide +kernel
theorem dX8_two_78 : decode cX8_two 78 = .ok (.goto 4, 3) := by decide +kernel
theorem dX8_two_81 : decode cX8_two 81 = .ok (.iconst 0, 1) := by decide +kernel
theorem dX8_two_82 : decode cX8_two 82 = .ok (.ireturn, 1) := by decide +kernel
theorem dX8_two_83 : decode cX8_two 83 = .ok (.iload_n 1, 1) := by decide +kernel
theorem dX8_two_84 : decode cX8_two 84 = .ok (.iload_n 2, 1) := by decide +kernel
theorem dX8_two_85 : decode cX8_two 85 = .ok (.if_icmp .ne 7, 3) := by decide +kernel
theorem dX8_two_88 : decode cX8_two 88 = .ok (.iconst 1, 1) := by decide +kernel
theorem dX8_two_89 : decode cX8_two 89 = .ok (.goto 4, 3) := by decide +kernel
theorem dX8_two_92 : decode cX8_two 92 = .ok (.iconst 0, 1) := by decide +kernel
theorem dX8_two_93 : decode cX8_two 93 = .ok (.ireturn, 1) := by decide +kernel
theorem dX8_two_94 : decode cX8_two 94 = .ok (.iload_n 1, 1) := by decide +kernel
theorem dX8_two_95 : decode cX8_two 95 = .ok (.iload_n 2, 1) := by decide +kernel
theorem dX8_two_96 : decode cX8_two 96 = .ok (.iadd, 1) := by decide +kernel
theorem dX8_two_97 : decode cX8_two 97 = .ok (.ireturn, 1) := by decide +kernel
theorem dX8_two_98 : decode cX8_two 98 = .ok (.iload_n 1, 1) := by decide +kernel
theorem dX8_two_99 : decode cX8_two 99 = .ok (.iload_n 2, 1) := by decide +kernel
theorem dX8_two_100 : decode cX8_two 100 = .ok (.isub, 1) := by decide +kernel
theorem dX8_two_101 : decode cX8_two 101 = .ok (.ireturn, 1) := by decide +kernel
theorem dX8_two_102 : decode cX8_two 102 = .ok (.iload_n 1, 1) := by decide +kernel
theorem dX8_two_103 : decode cX8_two 103 = .ok (.iload_n 2, 1) := by decide +kernel
theorem dX8_two_104 : decode cX8_two 104 = .ok (.imul, 1) := by decide +kernel
theorem dX8_two_105 : decode cX8_two 105 = .ok (.ireturn, 1) := by decide +kernel
theorem dX8_says_0 : decode cX8_says 0 = .ok (.iconst 0, 1) := by decide +kernel
theorem dX8_says_1 : decode cX8_says 1 = .ok (.istore_n 2, 1) := by decide +kernel
theorem dX8_says_2 : decode cX8_says 2 = .ok (.aload_n 0, 1) := by decide +kernel
theorem dX8_says_3 : decode cX8_says 3 = .ok (.getfield 31, 3) := by decide +kernel
theorem dX8_says_6 : decode cX8_says 6 = .ok (.iconst 4, 1) := by decide +kernel
theorem dX8_says_7 : decode cX8_says 7 = .ok (.aload_n 0, 1) := by decide +kernel
theorem dX8_says_8 : decode cX8_says 8 = .ok (.getfield 94, 3) := by decide +kernel
theorem dX8_says_11 : decode cX8_says 11 = .ok (.imul, 1) := by decide +kernel
theorem dX8_says_12 : decode cX8_says 12 = .ok (.iload_n 1, 1) := by decide +kernel
theorem dX8_says_13 : decode cX8_says 13 = .ok (.iadd, 1) := by decide +kernel
theorem dX8_says_14 : decode cX8_says 14 = .ok (.iaload, 1) := by decide +kernel
theorem dX8_says_15 : decode cX8_says 15 = .ok (.istore_n 3, 1) := by decide +kernel
theorem dX8_says_16 : decode cX8_says 16 = .ok (.iload_n 3, 1) := by decide +kernel
theorem dX8_says_17 : decode cX8_says 17 = .ok (.aload_n 0, 1) := by decide +kernel
theorem dX8_says_18 : decode cX8_says 18 = .ok (.getfield 31, 3) := by decide +kernel
theorem dX8_says_21 : decode cX8_says 21 = .ok (.iconst 4, 1) := by decide +kernel
theorem dX8_says_22 : decode cX8_says 22 = .ok (.aload_n 0, 1) := by decide +kernel
theorem dX8_says_23 : decode cX8_says 23 = .ok (.getfield 94, 3) := by decide +kernel
theorem dX8_says_26 : decode cX8_says 26 = .ok (.imul, 1) := by decide +kernel
theorem dX8_says_27 : decode cX8_says 27 = .ok (.iload_n 1, 1) := by decide +kernel
theorem dX8_says_28 : decode cX8_says 28 = .ok (.iadd, 1) := by decide +kernel
theorem dX8_says_29 : decode cX8_says 29 = .ok (.iconst 1, 1) := by decide +kernel
theorem dX8_says_30 : decode cX8_says 30 = .ok (.iadd, 1) := by decide +kernel
theorem dX8_says_31 : decode cX8_says 31 = .ok (.iaload, 1) := by decide +kernel
theorem dX8_says_32 : decode cX8_says 32 = .ok (.if_icmp .ge 165, 3) := by decide +kernel
theorem dX8_says_35 : decode cX8_says 35 = .ok (.aload_n 0, 1) := by decide +kernel
theorem dX8_says_36 : decode cX8_says 36 = .ok (.getfield 28, 3) := by decide +kernel
theorem dX8_says_39 : decode cX8_says 39 = .ok (.sipush 200, 3) := by decide +kernel
theorem dX8_says_42 : decode cX8_says 42 = .ok (.aload_n 0, 1) := by decide +kernel
theorem dX8_says_43 : decode cX8_says 43 = .ok (.getfield 94, 3) := by decide +kernel
theorem dX8_says_46 : decode cX8_says 46 = .ok (.imul, 1) := by decide +kernel
theorem dX8_says_47 : decode cX8_says 47 = .ok (.iload_n 3, 1) := by decide +kernel
theorem dX8_says_48 : decode cX8_says 48 = .ok (.iadd, 1) := by decide +kernel
theorem dX8_says_49 : decode cX8_says 49 = .ok (.iaload, 1) := by decide +kernel
theorem dX8_says_50 : decode cX8_says 50 = .ok (.istore 4, 2) := by decide +kernel
theorem dX8_says_52 : decode cX8_says 52 = .ok (.iload 4, 2) := by decide +kernel
theorem dX8_says_54 : decode cX8_says 54 = .ok (.ldc 143, 2) := by decide +kernel
theorem dX8_says_56 : decode cX8_says 56 = .ok (.if_icmp .ge 10, 3) := by decide +kernel
theorem dX8_says_59 : decode cX8_says 59 = .ok (.iload 4, 2) := by decide +kernel
theorem dX8_says_61 : decode cX8_says 61 = .ok (.bipush 11, 2) := by decide +kernel
theorem dX8_says_63 : decode cX8_says 63 = .ok (.if_icmp .ge 37, 3) := by decide +kernel
theorem dX8_says_66 : decode cX8_says 66 = .ok (.aload_n 0, 1) := by decide +kernel
theorem dX8_says_67 : decode cX8_says 67 = .ok (.getfield 55, 3) := by decide +kernel
theorem dX8_says_70 : decode cX8_says 70 = .ok (.iload_n 2, 1) := by decide +kernel
theorem dX8_says_71 : decode cX8_says 71 = .ok (.iload 4, 2) := by decide +kernel
theorem dX8_says_73 : decode cX8_says 73 = .ok (.bipush 11, 2) := by decide +kernel
theorem dX8_says_75 : decode cX8_says 75 = .ok (.if_icmp .ge 13, 3) := by decide +kernel
theorem dX8_says_78 : decode cX8_says 78 = .ok (.aload_n 0, 1) := by decide +kernel
theorem dX8_says_79 : decode cX8_says 79 = .ok (.getfield 58, 3) := by decide +kernel
theorem dX8_says_82 : decode cX8_says 82 = .ok (.iload 4, 2) := by decide +kernel
theorem dX8_says_84 : decode cX8_says 84 = .ok (.iaload, 1) := by decide +kernel
theorem dX8_says_85 : decode cX8_says 85 = .ok (.goto 8, 3) := by decide +kernel
theorem dX8_says_88 : decode cX8_says 88 = .ok (.iload 4, 2) := by decide +kernel
theorem dX8_says_90 : decode cX8_says 90 = .ok (.ldc 143, 2) := by decide +kernel
theorem dX8_says_92 : decode cX8_says 92 = .ok (.isub, 1) := by decide +kernel
theorem dX8_says_93 : decode cX8_says 93 = .ok (.iastore, 1) := by decide +kernel
theorem dX8_says_94 : decode cX8_says 94 = .ok (.iinc 2 1, 3) := by decide +kernel
theorem dX8_says_97 : decode cX8_says 97 = .ok (.goto 94, 3) := by decide +kernel
theorem dX8_says_100 : decode cX8_says 100 = .ok (.iload 4, 2) := by decide +kernel
theorem dX8_says_102 : decode cX8_says 102 = .ok (.bipush 13, 2) := by decide +kernel
theorem dX8_says_104 : decode cX8_says 104 = .ok (.if_icmp .ne 30, 3) := by decide +kernel
theorem dX8_says_107 : decode cX8_says 107 = .ok (.aload_n 0, 1) := by decide +kernel
theorem dX8_says_108 : decode cX8_says 108 = .ok (.getfield 55, 3) := by decide +kernel
theorem dX8_says_111 : decode cX8_says 111 = .ok (.iload_n 2, 1) := by decide +kernel
theorem dX8_says_112 : decode cX8_says 112 = .ok (.iconst 1, 1) := by decide +kernel
theorem dX8_says_113 : decode cX8_says 113 = .ok (.isub, 1) := by decide +kernel
theorem dX8_says_114 : decode cX8_says 114 = .ok (.aload_n 0, 1) := by decide +kernel
theorem dX8_says_115 : decode cX8_says 115 = .ok (.getfield 55, 3) := by decide +kernel
theorem dX8_says_118 : decode cX8_says 118 = .ok (.iload_n 2, 1) := by decide +kernel
theorem dX8_says_119 : decode cX8_says 119 = .ok (.iconst 1, 1) := by decide +kernel
theorem dX8_says_120 : decode cX8_says 120 = .ok (.isub, 1) := by decide +kernel
theorem dX8_says_121 : decode cX8_says 121 = .ok (.iaload, 1) := by decide +kernel
theorem dX8_says_122 : decode cX8_says 122 = .ok (.ifCond .ne 7, 3) := by decide +kernel
theorem dX8_says_125 : decode cX8_says 125 = .ok (.iconst 1, 1) := by decide +kernel
theorem dX8_says_126 : decode cX8_says 126 = .ok (.goto 4, 3) := by decide +kernel
theorem dX8_says_129 : decode cX8_says 129 = .ok (.iconst 0, 1) := by decide +kernel
theorem dX8_says_130 : decode cX8_says 130 = .ok (.iastore, 1) := by decide +kernel
theorem dX8_says_131 : decode cX8_says 131 = .ok (.goto 60, 3) := by decide +kernel
theorem dX8_says_134 : decode cX8_says 134 = .ok (.iload 4, 2) := by decide +kernel
theorem dX8_says_136 : decode cX8_says 136 = .ok (.bipush 19, 2) := by decide +kernel
theorem dX8_says_138 : decode cX8_says 138 = .ok (.if_icmp .ne 23, 3) := by decide +kernel
theorem dX8_says_141 : decode cX8_says 141 = .ok (.aload_n 0, 1) := by decide +kernel
theorem dX8_says_142 : decode cX8_says 142 = .ok (.getfield 55, 3) := by decide +kernel
theorem dX8_says_145 : decode cX8_says 145 = .ok (.iload_n 2, 1) := by decide +kernel
theorem dX8_says_146 : decode cX8_says 146 = .ok (.iconst 1, 1) := by decide +kernel
theorem dX8_says_147 : decode cX8_says 147 = .ok (.isub, 1) := by decide +kernel
theorem dX8_says_148 : decode cX8_says 148 = .ok (.aload_n 0, 1) := by decide +kernel
theorem dX8_says_149 : decode cX8_says 149 = .ok (.getfield 55, 3) := by decide +kernel
theorem dX8_says_152 : decode cX8_says 152 = .ok (.iload_n 2, 1) := by decide +kernel
theorem dX8_says_153 : decode cX8_says 153 = .ok (.iconst 1, 1) := by decide +kernel
theorem dX8_says_154 : decode cX8_says 154 = .ok (.isub, 1) := by decide +kernel
theorem dX8_says_155 : decode cX8_says 155 = .ok (.iaload, 1) := by decide +kernel
theorem dX8_says_156 : decode cX8_says 156 = .ok (.ineg, 1) := by decide +kernel
theorem dX8_says_157 : decode cX8_says 157 = .ok (.iastore, 1) := by decide +kernel
theorem dX8_says_158 : decode cX8_says 158 = .ok (.goto 33, 3) := by decide +kernel
theorem dX8_says_161 : decode cX8_says 161 = .ok (.iinc 2 (-1), 3) := by decide +kernel
theorem dX8_says_164 : decode cX8_says 164 = .ok (.aload_n 0, 1) := by decide +kernel
theorem dX8_says_165 : decode cX8_says 165 = .ok (.getfield 55, 3) := by decide +kernel
theorem dX8_says_168 : decode cX8_says 168 = .ok (.iload_n 2, 1) := by decide +kernel
theorem dX8_says_169 : decode cX8_says 169 = .ok (.iconst 1, 1) := by decide +kernel
theorem dX8_says_170 : decode cX8_says 170 = .ok (.isub, 1) := by decide +kernel
theorem dX8_says_171 : decode cX8_says 171 = .ok (.iload 4, 2) := by decide +kernel
theorem dX8_says_173 : decode cX8_says 173 = .ok (.aload_n 0, 1) := by decide +kernel
theorem dX8_says_174 : decode cX8_says 174 = .ok (.getfield 55, 3) := by decide +kernel
theorem dX8_says_177 : decode cX8_says 177 = .ok (.iload_n 2, 1) := by decide +kernel
theorem dX8_says_178 : decode cX8_says 178 = .ok (.iconst 1, 1) := by decide +kernel
theorem dX8_says_179 : decode cX8_says 179 = .ok (.isub, 1) := by decide +kernel
theorem dX8_says_180 : decode cX8_says 180 = .ok (.iaload, 1) := by decide +kernel
theorem dX8_says_181 : decode cX8_says 181 = .ok (.aload_n 0, 1) := by decide +kernel
theorem dX8_says_182 : decode cX8_says 182 = .ok (.getfield 55, 3) := by decide +kernel
theorem dX8_says_185 : decode cX8_says 185 = .ok (.iload_n 2, 1) := by decide +kernel
theorem dX8_says_186 : decode cX8_says 186 = .ok (.iaload, 1) := by decide +kernel
theorem dX8_says_187 : decode cX8_says 187 = .ok (.invokestatic 157, 3) := by decide +kernel
theorem dX8_says_190 : decode cX8_says 190 = .ok (.iastore, 1) := by decide +kernel
theorem dX8_says_191 : decode cX8_says 191 = .ok (.iinc 3 1, 3) := by decide +kernel
theorem dX8_says_194 : decode cX8_says 194 = .ok (.goto (-178), 3) := by decide +kernel
theorem dX8_says_197 : decode cX8_says 197 = .ok (.aload_n 0, 1) := by decide +kernel
theorem dX8_says_198 : decode cX8_says 198 = .ok (.getfield 55, 3) := by decide +kernel
theorem dX8_says_201 : decode cX8_says 201 = .ok (.iconst 0, 1) := by decide +kernel
theorem dX8_says_202 : decode cX8_says 202 = .ok (.iaload, 1) := by decide +kernel
theorem dX8_says_203 : decode cX8_says 203 = .ok (.ireturn, 1) := by decide +kernel
theorem dX8_force_0 : decode cX8_force 0 = .ok (.iload_n 1, 1) := by decide +kernel
theorem dX8_force_1 : decode cX8_force 1 = .ok (.iconst 0, 1) := by decide +kernel
theorem dX8_force_2 : decode cX8_force 2 = .ok (.aload_n 0, 1) := by decide +kernel
theorem dX8_force_3 : decode cX8_force 3 = .ok (.getfield 91, 3) := by decide +kernel
theorem dX8_force_6 : decode cX8_force 6 = .ok (.iconst 1, 1) := by decide +kernel
theorem dX8_force_7 : decode cX8_force 7 = .ok (.isub, 1) := by decide +kernel
theorem dX8_force_8 : decode cX8_force 8 = .ok (.invokestatic 78, 3) := by decide +kernel
theorem dX8_force_11 : decode cX8_force 11 = .ok (.ifCond .ne 6, 3) := by decide +kernel
theorem dX8_force_14 : decode cX8_force 14 = .ok (.bipush (-2), 2) := by decide +kernel
theorem dX8_force_16 : decode cX8_force 16 = .ok (.ireturn, 1) := by decide +kernel
theorem dX8_force_17 : decode cX8_force 17 = .ok (.aload_n 0, 1) := by decide +kernel
theorem dX8_force_18 : decode cX8_force 18 = .ok (.getfield 94, 3) := by decide +kernel
theorem dX8_force_21 : decode cX8_force 21 = .ok (.istore_n 2, 1) := by decide +kernel
theorem dX8_force_22 : decode cX8_force 22 = .ok (.aload_n 0, 1) := by decide +kernel
theorem dX8_force_23 : decode cX8_force 23 = .ok (.iload_n 1, 1) := by decide +kernel
theorem dX8_force_24 : decode cX8_force 24 = .ok (.putfield 94, 3) := by decide +kernel
theorem dX8_force_27 : decode cX8_force 27 = .ok (.iload_n 2, 1) := by decide +kernel
theorem dX8_force_28 : decode cX8_force 28 = .ok (.ireturn, 1) := by decide +kernel
theorem dX8_asksOf_0 : decode cX8_asksOf 0 = .ok (.aload_n 0, 1) := by decide +kernel
theorem dX8_asksOf_1 : decode cX8_asksOf 1 = .ok (.getfield 58, 3) := by decide +kernel
theorem dX8_asksOf_4 : decode cX8_asksOf 4 = .ok (.iconst 0, 1) := by decide +kernel
theorem dX8_asksOf_5 : decode cX8_asksOf 5 = .ok (.iload_n 2, 1) := by decide +kernel
theorem dX8_asksOf_6 : decode cX8_asksOf 6 = .ok (.iastore, 1) := by decide +kernel
theorem dX8_asksOf_7 : decode cX8_asksOf 7 = .ok (.aload_n 0, 1) := by decide +kernel
theorem dX8_asksOf_8 : decode cX8_asksOf 8 = .ok (.getfield 58, 3) := by decide +kernel
theorem dX8_asksOf_11 : decode cX8_asksOf 11 = .ok (.iconst 1, 1) := by decide +kernel
theorem dX8_asksOf_12 : decode cX8_asksOf 12 = .ok (.aload_n 0, 1) := by decide +kernel
theorem dX8_asksOf_13 : decode cX8_asksOf 13 = .ok (.getfield 19, 3) := by decide +kernel
theorem dX8_asksOf_16 : decode cX8_asksOf 16 = .ok (.iconst 5, 1) := by decide +kernel
theorem dX8_asksOf_17 : decode cX8_asksOf 17 = .ok (.iload_n 3, 1) := by decide +kernel
theorem dX8_asksOf_18 : decode cX8_asksOf 18 = .ok (.imul, 1) := by decide +kernel
theorem dX8_asksOf_19 : decode cX8_asksOf 19 = .ok (.iaload, 1) := by decide +kernel
theorem dX8_asksOf_20 : decode cX8_asksOf 20 = .ok (.iastore, 1) := by decide +kernel
theorem dX8_asksOf_21 : decode cX8_asksOf 21 = .ok (.aload_n 0, 1) := by decide +kernel
theorem dX8_asksOf_22 : decode cX8_asksOf 22 = .ok (.getfield 58, 3) := by decide +kernel
theorem dX8_asksOf_25 : decode cX8_asksOf 25 = .ok (.iconst 2, 1) := by decide +kernel
theorem dX8_asksOf_26 : decode cX8_asksOf 26 = .ok (.iload 4, 2) := by decide +kernel
theorem dX8_asksOf_28 : decode cX8_asksOf 28 = .ok (.iastore, 1) := by decide +kernel
theorem dX8_asksOf_29 : decode cX8_asksOf 29 = .ok (.aload_n 0, 1) := by decide +kernel
theorem dX8_asksOf_30 : decode cX8_asksOf 30 = .ok (.getfield 58, 3) := by decide +kernel
theorem dX8_asksOf_33 : decode cX8_asksOf 33 = .ok (.iconst 3, 1) := by decide +kernel
theorem dX8_asksOf_34 : decode cX8_asksOf 34 = .ok (.aload_n 0, 1) := by decide +kernel
theorem dX8_asksOf_35 : decode cX8_asksOf 35 = .ok (.getfield 88, 3) := by decide +kernel
theorem dX8_asksOf_38 : decode cX8_asksOf 38 = .ok (.iastore, 1) := by decide +kernel
theorem dX8_asksOf_39 : decode cX8_asksOf 39 = .ok (.aload_n 0, 1) := by decide +kernel
theorem dX8_asksOf_40 : decode cX8_asksOf 40 = .ok (.getfield 58, 3) := by decide +kernel
theorem dX8_asksOf_43 : decode cX8_asksOf 43 = .ok (.iconst 4, 1) := by decide +kernel
theorem dX8_asksOf_44 : decode cX8_asksOf 44 = .ok (.aload_n 0, 1) := by decide +kernel
theorem dX8_asksOf_45 : decode cX8_asksOf 45 = .ok (.getfield 19, 3) := by decide +kernel
theorem dX8_asksOf_48 : decode cX8_asksOf 48 = .ok (.iconst 5, 1) := by decide +kernel
theorem dX8_asksOf_49 : decode cX8_asksOf 49 = .ok (.iload_n 3, 1) := by decide +kernel
theorem dX8_asksOf_50 : decode cX8_asksOf 50 = .ok (.imul, 1) := by decide +kernel
theorem dX8_asksOf_51 : decode cX8_asksOf 51 = .ok (.iconst 1, 1) := by decide +kernel
theorem dX8_asksOf_52 : decode cX8_asksOf 52 = .ok (.iadd, 1) := by decide +kernel
theorem dX8_asksOf_53 : decode cX8_asksOf 53 = .ok (.iaload, 1) := by decide +kernel
theorem dX8_asksOf_54 : decode cX8_asksOf 54 = .ok (.iastore, 1) := by decide +kernel
theorem dX8_asksOf_55 : decode cX8_asksOf 55 = .ok (.aload_n 0, 1) := by decide +kernel
theorem dX8_asksOf_56 : decode cX8_asksOf 56 = .ok (.getfield 58, 3) := by decide +kernel
theorem dX8_asksOf_59 : decode cX8_asksOf 59 = .ok (.iconst 5, 1) := by decide +kernel
theorem dX8_asksOf_60 : decode cX8_asksOf 60 = .ok (.iload_n 3, 1) := by decide +kernel
theorem dX8_asksOf_61 : decode cX8_asksOf 61 = .ok (.iastore, 1) := by decide +kernel
theorem dX8_asksOf_62 : decode cX8_asksOf 62 = .ok (.aload_n 0, 1) := by decide +kernel
theorem dX8_asksOf_63 : decode cX8_asksOf 63 = .ok (.iload_n 1, 1) := by decide +kernel
theorem dX8_asksOf_64 : decode cX8_asksOf 64 = .ok (.invokevirtual 161, 3) := by decide +kernel
theorem dX8_asksOf_67 : decode cX8_asksOf 67 = .ok (.iconst 0, 1) := by decide +kernel
theorem dX8_asksOf_68 : decode cX8_asksOf 68 = .ok (.iload_n 1, 1) := by decide +kernel
theorem dX8_asksOf_69 : decode cX8_asksOf 69 = .ok (.iconst 1, 1) := by decide +kernel
theorem dX8_asksOf_70 : decode cX8_asksOf 70 = .ok (.if_icmp .ne 8, 3) := by decide +kernel
theorem dX8_asksOf_73 : decode cX8_asksOf 73 = .ok (.bipush 100, 2) := by decide +kernel
theorem dX8_asksOf_75 : decode cX8_asksOf 75 = .ok (.goto 5, 3) := by decide +kernel
theorem dX8_asksOf_78 : decode cX8_asksOf 78 = .ok (.bipush 99, 2) := by decide +kernel
theorem dX8_asksOf_80 : decode cX8_asksOf 80 = .ok (.invokestatic 164, 3) := by decide +kernel
theorem dX8_asksOf_83 : decode cX8_asksOf 83 = .ok (.ireturn, 1) := by decide +kernel
theorem dX8_asks_0 : decode cX8_asks 0 = .ok (.iload_n 1, 1) := by decide +kernel
theorem dX8_asks_1 : decode cX8_asks 1 = .ok (.iconst 0, 1) := by decide +kernel
theorem dX8_asks_2 : decode cX8_asks 2 = .ok (.iconst 2, 1) := by decide +kernel
theorem dX8_asks_3 : decode cX8_asks 3 = .ok (.invokestatic 78, 3) := by decide +kernel
theorem dX8_asks_6 : decode cX8_asks 6 = .ok (.ifCond .eq 44, 3) := by decide +kernel
theorem dX8_asks_9 : decode cX8_asks 9 = .ok (.iload_n 2, 1) := by decide +kernel
theorem dX8_asks_10 : decode cX8_asks 10 = .ok (.iconst 0, 1) := by decide +kernel
theorem dX8_asks_11 : decode cX8_asks 11 = .ok (.bipush 99, 2) := by decide +kernel
theorem dX8_asks_13 : decode cX8_asks 13 = .ok (.invokestatic 78, 3) := by decide +kernel
theorem dX8_asks_16 : decode cX8_asks 16 = .ok (.ifCond .eq 34, 3) := by decide +kernel
theorem dX8_asks_19 : decode cX8_asks 19 = .ok (.aload_n 0, 1) := by decide +kernel
theorem dX8_asks_20 : decode cX8_asks 20 = .ok (.iload_n 3, 1) := by decide +kernel
theorem dX8_asks_21 : decode cX8_asks 21 = .ok (.invokevirtual 167, 3) := by decide +kernel
theorem dX8_asks_24 : decode cX8_asks 24 = .ok (.ifCond .eq 26, 3) := by decide +kernel
theorem dX8_asks_27 : decode cX8_asks 27 = .ok (.iload 4, 2) := by decide +kernel
theorem dX8_asks_29 : decode cX8_asks 29 = .ok (.iconst 0, 1) := by decide +kernel
theorem dX8_asks_30 : decode cX8_asks 30 = .ok (.bipush 9, 2) := by decide +kernel
theorem dX8_asks_32 : decode cX8_asks 32 = .ok (.invokestatic 78, 3) := by decide +kernel
theorem dX8_asks_35 : decode cX8_asks 35 = .ok (.ifCond .eq 15, 3) := by decide +kernel
theorem dX8_asks_38 : decode cX8_asks 38 = .ok (.aload_n 0, 1) := by decide +kernel
theorem dX8_asks_39 : decode cX8_asks 39 = .ok (.iload_n 1, 1) := by decide +kernel
theorem dX8_asks_40 : decode cX8_asks 40 = .ok (.iload_n 2, 1) := by decide +kernel
theorem dX8_asks_41 : decode cX8_asks 41 = .ok (.iload_n 3, 1) := by decide +kernel
theorem dX8_asks_42 : decode cX8_asks 42 = .ok (.iload 4, 2) := by decide +kernel
theorem dX8_asks_44 : decode cX8_asks 44 = .ok (.invokevirtual 170, 3) := by decide +kernel
theorem dX8_asks_47 : decode cX8_asks 47 = .ok (.goto 5, 3) := by decide +kernel
theorem dX8_asks_50 : decode cX8_asks 50 = .ok (.bipush (-2), 2) := by decide +kernel
theorem dX8_asks_52 : decode cX8_asks 52 = .ok (.ireturn, 1) := by decide +kernel
theorem dX8_joke_0 : decode cX8_joke 0 = .ok (.iload_n 1, 1) := by decide +kernel
theorem dX8_joke_1 : decode cX8_joke 1 = .ok (.iconst 0, 1) := by decide +kernel
theorem dX8_joke_2 : decode cX8_joke 2 = .ok (.iconst 5, 1) := by decide +kernel
theorem dX8_joke_3 : decode cX8_joke 3 = .ok (.invokestatic 78, 3) := by decide +kernel
theorem dX8_joke_6 : decode cX8_joke 6 = .ok (.ifCond .eq 13, 3) := by decide +kernel
theorem dX8_joke_9 : decode cX8_joke 9 = .ok (.iload_n 2, 1) := by decide +kernel
theorem dX8_joke_10 : decode cX8_joke 10 = .ok (.iconst 0, 1) := by decide +kernel
theorem dX8_joke_11 : decode cX8_joke 11 = .ok (.bipush 9, 2) := by decide +kernel
theorem dX8_joke_13 : decode cX8_joke 13 = .ok (.invokestatic 78, 3) := by decide +kernel
theorem dX8_joke_16 : decode cX8_joke 16 = .ok (.ifCond .ne 6, 3) := by decide +kernel
theorem dX8_joke_19 : decode cX8_joke 19 = .ok (.bipush (-2), 2) := by decide +kernel
theorem dX8_joke_21 : decode cX8_joke 21 = .ok (.ireturn, 1) := by decide +kernel
theorem dX8_joke_22 : decode cX8_joke 22 = .ok (.aload_n 0, 1) := by decide +kernel
theorem dX8_joke_23 : decode cX8_joke 23 = .ok (.getfield 75, 3) := by decide +kernel
theorem dX8_joke_26 : decode cX8_joke 26 = .ok (.iconst 5, 1) := by decide +kernel
theorem dX8_joke_27 : decode cX8_joke 27 = .ok (.if_icmp .ne 6, 3) := by decide +kernel
theorem dX8_joke_30 : decode cX8_joke 30 = .ok (.bipush (-4), 2) := by decide +kernel
theorem dX8_joke_32 : decode cX8_joke 32 = .ok (.ireturn, 1) := by decide +kernel
theorem dX8_joke_33 : decode cX8_joke 33 = .ok (.aload_n 0, 1) := by decide +kernel
theorem dX8_joke_34 : decode cX8_joke 34 = .ok (.getfield 7, 3) := by decide +kernel
theorem dX8_joke_37 : decode cX8_joke 37 = .ok (.aload_n 0, 1) := by decide +kernel
theorem dX8_joke_38 : decode cX8_joke 38 = .ok (.getfield 75, 3) := by decide +kernel
theorem dX8_joke_41 : decode cX8_joke 41 = .ok (.iload_n 1, 1) := by decide +kernel
theorem dX8_joke_42 : decode cX8_joke 42 = .ok (.iastore, 1) := by decide +kernel
theorem dX8_joke_43 : decode cX8_joke 43 = .ok (.aload_n 0, 1) := by decide +kernel
theorem dX8_joke_44 : decode cX8_joke 44 = .ok (.getfield 13, 3) := by decide +kernel
theorem dX8_joke_47 : decode cX8_joke 47 = .ok (.aload_n 0, 1) := by decide +kernel
theorem dX8_joke_48 : decode cX8_joke 48 = .ok (.getfield 75, 3) := by decide +kernel
theorem dX8_joke_51 : decode cX8_joke 51 = .ok (.iload_n 2, 1) := by decide +kernel
theorem dX8_joke_52 : decode cX8_joke 52 = .ok (.iastore, 1) := by decide +kernel
theorem dX8_joke_53 : decode cX8_joke 53 = .ok (.aload_n 0, 1) := by decide +kernel
theorem dX8_joke_54 : decode cX8_joke 54 = .ok (.getfield 16, 3) := by decide +kernel
theorem dX8_joke_57 : decode cX8_joke 57 = .ok (.aload_n 0, 1) := by decide +kernel
theorem dX8_joke_58 : decode cX8_joke 58 = .ok (.getfield 75, 3) := by decide +kernel
theorem dX8_joke_61 : decode cX8_joke 61 = .ok (.iconst 0, 1) := by decide +kernel
theorem dX8_joke_62 : decode cX8_joke 62 = .ok (.iastore, 1) := by decide +kernel
theorem dX8_joke_63 : decode cX8_joke 63 = .ok (.iconst 0, 1) := by decide +kernel
theorem dX8_joke_64 : decode cX8_joke 64 = .ok (.istore_n 3, 1) := by decide +kernel
theorem dX8_joke_65 : decode cX8_joke 65 = .ok (.iload_n 3, 1) := by decide +kernel
theorem dX8_joke_66 : decode cX8_joke 66 = .ok (.bipush 6, 2) := by decide +kernel
theorem dX8_joke_68 : decode cX8_joke 68 = .ok (.if_icmp .ge 30, 3) := by decide +kernel
theorem dX8_joke_71 : decode cX8_joke 71 = .ok (.aload_n 0, 1) := by decide +kernel
theorem dX8_joke_72 : decode cX8_joke 72 = .ok (.getfield 19, 3) := by decide +kernel
theorem dX8_joke_75 : decode cX8_joke 75 = .ok (.iconst 5, 1) := by decide +kernel
theorem dX8_joke_76 : decode cX8_joke 76 = .ok (.iload_n 3, 1) := by decide +kernel
theorem dX8_joke_77 : decode cX8_joke 77 = .ok (.imul, 1) := by decide +kernel
theorem dX8_joke_78 : decode cX8_joke 78 = .ok (.iconst 3, 1) := by decide +kernel
theorem dX8_joke_79 : decode cX8_joke 79 = .ok (.iadd, 1) := by decide +kernel
theorem dX8_joke_80 : decode cX8_joke 80 = .ok (.dup2, 1) := by decide +kernel
theorem dX8_joke_81 : decode cX8_joke 81 = .ok (.iaload, 1) := by decide +kernel
theorem dX8_joke_82 : decode cX8_joke 82 = .ok (.iconst 1, 1) := by decide +kernel
theorem dX8_joke_83 : decode cX8_joke 83 = .ok (.aload_n 0, 1) := by decide +kernel
theorem dX8_joke_84 : decode cX8_joke 84 = .ok (.getfield 75, 3) := by decide +kernel
theorem dX8_joke_87 : decode cX8_joke 87 = .ok (.ishl, 1) := by decide +kernel
theorem dX8_joke_88 : decode cX8_joke 88 = .ok (.iconst (-1), 1) := by decide +kernel
theorem dX8_joke_89 : decode cX8_joke 89 = .ok (.ixor, 1) := by decide +kernel
theorem dX8_joke_90 : decode cX8_joke 90 = .ok (.iand, 1) := by decide +kernel
theorem dX8_joke_91 : decode cX8_joke 91 = .ok (.iastore, 1) := by decide +kernel
theorem dX8_joke_92 : decode cX8_joke 92 = .ok (.iinc 3 1, 3) := by decide +kernel
theorem dX8_joke_95 : decode cX8_joke 95 = .ok (.goto (-30), 3) := by decide +kernel
theorem dX8_joke_98 : decode cX8_joke 98 = .ok (.aload_n 0, 1) := by decide +kernel
theorem dX8_joke_99 : decode cX8_joke 99 = .ok (.dup, 1) := by decide +kernel
theorem dX8_joke_100 : decode cX8_joke 100 = .ok (.getfield 75, 3) := by decide +kernel
theorem dX8_joke_103 : decode cX8_joke 103 = .ok (.iconst 1, 1) := by decide +kernel
theorem dX8_joke_104 : decode cX8_joke 104 = .ok (.iadd, 1) := by decide +kernel
theorem dX8_joke_105 : decode cX8_joke 105 = .ok (.putfield 75, 3) := by decide +kernel
theorem dX8_joke_108 : decode cX8_joke 108 = .ok (.aload_n 0, 1) := by decide +kernel
theorem dX8_joke_109 : decode cX8_joke 109 = .ok (.getfield 75, 3) := by decide +kernel
theorem dX8_joke_112 : decode cX8_joke 112 = .ok (.iconst 1, 1) := by decide +kernel
theorem dX8_joke_113 : decode cX8_joke 113 = .ok (.isub, 1) := by decide +kernel
theorem dX8_joke_114 : decode cX8_joke 114 = .ok (.ireturn, 1) := by decide +kernel
theorem dX8_onOf_0 : decode cX8_onOf 0 = .ok (.aload_n 0, 1) := by decide +kernel
theorem dX8_onOf_1 : decode cX8_onOf 1 = .ok (.getfield 7, 3) := by decide +kernel
theorem dX8_onOf_4 : decode cX8_onOf 4 = .ok (.iload_n 1, 1) := by decide +kernel
theorem dX8_onOf_5 : decode cX8_onOf 5 = .ok (.iaload, 1) := by decide +kernel
theorem dX8_onOf_6 : decode cX8_onOf 6 = .ok (.istore_n 2, 1) := by decide +kernel
theorem dX8_onOf_7 : decode cX8_onOf 7 = .ok (.iload_n 2, 1) := by decide +kernel
theorem dX8_onOf_8 : decode cX8_onOf 8 = .ok (.iconst 1, 1) := by decide +kernel
theorem dX8_onOf_9 : decode cX8_onOf 9 = .ok (.if_icmp .eq 8, 3) := by decide +kernel
theorem dX8_onOf_12 : decode cX8_onOf 12 = .ok (.iload_n 2, 1) := by decide +kernel
theorem dX8_onOf_13 : decode cX8_onOf 13 = .ok (.iconst 3, 1) := by decide +kernel
theorem dX8_onOf_14 : decode cX8_onOf 14 = .ok (.if_icmp .ne 7, 3) := by decide +kernel
theorem dX8_onOf_17 : decode cX8_onOf 17 = .ok (.iconst 2, 1) := by decide +kernel
theorem dX8_onOf_18 : decode cX8_onOf 18 = .ok (.goto 31, 3) := by decide +kernel
theorem dX8_onOf_21 : decode cX8_onOf 21 = .ok (.iload_n 2, 1) := by decide +kernel
theorem dX8_onOf_22 : decode cX8_onOf 22 = .ok (.iconst 4, 1) := by decide +kernel
theorem dX8_onOf_23 : decode cX8_onOf 23 = .ok (.if_icmp .ne 7, 3) := by decide +kernel
theorem dX8_onOf_26 : decode cX8_onOf 26 = .ok (.iconst 0, 1) := by decide +kernel
theorem dX8_onOf_27 : decode cX8_onOf 27 = .ok (.goto 22, 3) := by decide +kernel
theorem dX8_onOf_30 : decode cX8_onOf 30 = .ok (.iload_n 2, 1) := by decide +kernel
theorem dX8_onOf_31 : decode cX8_onOf 31 = .ok (.iconst 5, 1) := by decide +kernel
theorem dX8_onOf_32 : decode cX8_onOf 32 = .ok (.if_icmp .ne 16, 3) := by decide +kernel
theorem dX8_onOf_35 : decode cX8_onOf 35 = .ok (.iconst 1, 1) := by decide +kernel
theorem dX8_onOf_36 : decode cX8_onOf 36 = .ok (.aload_n 0, 1) := by decide +kernel
theorem dX8_onOf_37 : decode cX8_onOf 37 = .ok (.getfield 13, 3) := by decide +kernel
theorem dX8_onOf_40 : decode cX8_onOf 40 = .ok (.iload_n 1, 1) := by decide +kernel
theorem dX8_onOf_41 : decode cX8_onOf 41 = .ok (.iaload, 1) := by decide +kernel
theorem dX8_onOf_42 : decode cX8_onOf 42 = .ok (.iconst 3, 1) := by decide +kernel
theorem dX8_onOf_43 : decode cX8_onOf 43 = .ok (.idiv, 1) := by decide +kernel
theorem dX8_onOf_44 : decode cX8_onOf 44 = .ok (.iadd, 1) := by decide +kernel
theorem dX8_onOf_45 : decode cX8_onOf 45 = .ok (.goto 4, 3) := by decide +kernel
theorem dX8_onOf_48 : decode cX8_onOf 48 = .ok (.iconst 1, 1) := by decide +kernel
theorem dX8_onOf_49 : decode cX8_onOf 49 = .ok (.ireturn, 1) := by decide +kernel
theorem dX8_wearsOf_0 : decode cX8_wearsOf 0 = .ok (.aload_n 0, 1) := by decide +kernel
theorem dX8_wearsOf_1 : decode cX8_wearsOf 1 = .ok (.getfield 7, 3) := by decide +kernel
theorem dX8_wearsOf_4 : decode cX8_wearsOf 4 = .ok (.iload_n 1, 1) := by decide +kernel
theorem dX8_wearsOf_5 : decode cX8_wearsOf 5 = .ok (.iaload, 1) := by decide +kernel
theorem dX8_wearsOf_6 : decode cX8_wearsOf 6 = .ok (.iconst 2, 1) := by decide +kernel
theorem dX8_wearsOf_7 : decode cX8_wearsOf 7 = .ok (.if_icmp .eq 13, 3) := by decide +kernel
theorem dX8_wearsOf_10 : decode cX8_wearsOf 10 = .ok (.aload_n 0, 1) := by decide +kernel
theorem dX8_wearsOf_11 : decode cX8_wearsOf 11 = .ok (.getfield 7, 3) := by decide +kernel
theorem dX8_wearsOf_14 : decode cX8_wearsOf 14 = .ok (.iload_n 1, 1) := by decide +kernel
theorem dX8_wearsOf_15 : decode cX8_wearsOf 15 = .ok (.iaload, 1) := by decide +kernel
theorem dX8_wearsOf_16 : decode cX8_wearsOf 16 = .ok (.iconst 4, 1) := by decide +kernel
theorem dX8_wearsOf_17 : decode cX8_wearsOf 17 = .ok (.if_icmp .ne 7, 3) := by decide +kernel
theorem dX8_wearsOf_20 : decode cX8_wearsOf 20 = .ok (.iconst 2, 1) := by decide +kernel
theorem dX8_wearsOf_21 : decode cX8_wearsOf 21 = .ok (.goto 18, 3) := by decide +kernel
theorem dX8_wearsOf_24 : decode cX8_wearsOf 24 = .ok (.aload_n 0, 1) := by decide +kernel
theorem dX8_wearsOf_25 : decode cX8_wearsOf 25 = .ok (.getfield 7, 3) := by decide +kernel
theorem dX8_wearsOf_28 : decode cX8_wearsOf 28 = .ok (.iload_n 1, 1) := by decide +kernel
theorem dX8_wearsOf_29 : decode cX8_wearsOf 29 = .ok (.iaload, 1) := by decide +kernel
theorem dX8_wearsOf_30 : decode cX8_wearsOf 30 = .ok (.iconst 3, 1) := by decide +kernel
theorem dX8_wearsOf_31 : decode cX8_wearsOf 31 = .ok (.if_icmp .ne 7, 3) := by decide +kernel
theorem dX8_wearsOf_34 : decode cX8_wearsOf 34 = .ok (.iconst 0, 1) := by decide +kernel
theorem dX8_wearsOf_35 : decode cX8_wearsOf 35 = .ok (.goto 4, 3) := by decide +kernel
theorem dX8_wearsOf_38 : decode cX8_wearsOf 38 = .ok (.iconst 1, 1) := by decide +kernel
theorem dX8_wearsOf_39 : decode cX8_wearsOf 39 = .ok (.ireturn, 1) := by decide +kernel
theorem dX8_told_0 : decode cX8_told 0 = .ok (.aload_n 0, 1) := by decide +kernel
theorem dX8_told_1 : decode cX8_told 1 = .ok (.iload_n 1, 1) := by decide +kernel
theorem dX8_told_2 : decode cX8_told 2 = .ok (.invokevirtual 174, 3) := by decide +kernel
theorem dX8_told_5 : decode cX8_told 5 = .ok (.ifCond .ne 6, 3) := by decide +kernel
theorem dX8_told_8 : decode cX8_told 8 = .ok (.bipush (-5), 2) := by decide +kernel
theorem dX8_told_10 : decode cX8_told 10 = .ok (.ireturn, 1) := by decide +kernel
theorem dX8_told_11 : decode cX8_told 11 = .ok (.iload_n 2, 1) := by decide +kernel
theorem dX8_told_12 : decode cX8_told 12 = .ok (.tableswitch 59 0 3 #[32, 39, 46, 53], 32) := by decide +kernel
theorem dX8_told_44 : decode cX8_told 44 = .ok (.aload_n 0, 1) := by decide +kernel
theorem dX8_told_45 : decode cX8_told 45 = .ok (.getfield 7, 3) := by decide +kernel
theorem dX8_told_48 : decode cX8_told 48 = .ok (.iload_n 1, 1) := by decide +kernel
theorem dX8_told_49 : decode cX8_told 49 = .ok (.iaload, 1) := by decide +kernel
theorem dX8_told_50 : decode cX8_told 50 = .ok (.ireturn, 1) := by decide +kernel
theorem dX8_told_51 : decode cX8_told 51 = .ok (.aload_n 0, 1) := by decide +kernel
theorem dX8_told_52 : decode cX8_told 52 = .ok (.getfield 13, 3) := by decide +kernel
theorem dX8_told_55 : decode cX8_told 55 = .ok (.iload_n 1, 1) := by decide +kernel
theorem dX8_told_56 : decode cX8_told 56 = .ok (.iaload, 1) := by decide +kernel
theorem dX8_told_57 : decode cX8_told 57 = .ok (.ireturn, 1) := by decide +kernel
theorem dX8_told_58 : decode cX8_told 58 = .ok (.aload_n 0, 1) := by decide +kernel
theorem dX8_told_59 : decode cX8_told 59 = .ok (.getfield 16, 3) := by decide +kernel
theorem dX8_told_62 : decode cX8_told 62 = .ok (.iload_n 1, 1) := by decide +kernel
theorem dX8_told_63 : decode cX8_told 63 = .ok (.iaload, 1) := by decide +kernel
theorem dX8_told_64 : decode cX8_told 64 = .ok (.ireturn, 1) := by decide +kernel
theorem dX8_told_65 : decode cX8_told 65 = .ok (.aload_n 0, 1) := by decide +kernel
theorem dX8_told_66 : decode cX8_told 66 = .ok (.iload_n 1, 1) := by decide +kernel
theorem dX8_told_67 : decode cX8_told 67 = .ok (.invokevirtual 177, 3) := by decide +kernel
theorem dX8_told_70 : decode cX8_told 70 = .ok (.ireturn, 1) := by decide +kernel
theorem dX8_told_71 : decode cX8_told 71 = .ok (.bipush (-7), 2) := by decide +kernel
theorem dX8_told_73 : decode cX8_told 73 = .ok (.ireturn, 1) := by decide +kernel
theorem dX8_hearer_0 : decode cX8_hearer 0 = .ok (.iload_n 1, 1) := by decide +kernel
theorem dX8_hearer_1 : decode cX8_hearer 1 = .ok (.iconst 0, 1) := by decide +kernel
theorem dX8_hearer_2 : decode cX8_hearer 2 = .ok (.bipush 9, 2) := by decide +kernel
theorem dX8_hearer_4 : decode cX8_hearer 4 = .ok (.invokestatic 78, 3) := by decide +kernel
theorem dX8_hearer_7 : decode cX8_hearer 7 = .ok (.ifCond .eq 13, 3) := by decide +kernel
theorem dX8_hearer_10 : decode cX8_hearer 10 = .ok (.iload_n 2, 1) := by decide +kernel
theorem dX8_hearer_11 : decode cX8_hearer 11 = .ok (.iconst 1, 1) := by decide +kernel
theorem dX8_hearer_12 : decode cX8_hearer 12 = .ok (.bipush 9, 2) := by decide +kernel
theorem dX8_hearer_14 : decode cX8_hearer 14 = .ok (.invokestatic 78, 3) := by decide +kernel
theorem dX8_hearer_17 : decode cX8_hearer 17 = .ok (.ifCond .ne 6, 3) := by decide +kernel
theorem dX8_hearer_20 : decode cX8_hearer 20 = .ok (.bipush (-2), 2) := by decide +kernel
theorem dX8_hearer_22 : decode cX8_hearer 22 = .ok (.ireturn, 1) := by decide +kernel
theorem dX8_hearer_23 : decode cX8_hearer 23 = .ok (.aload_n 0, 1) := by decide +kernel
theorem dX8_hearer_24 : decode cX8_hearer 24 = .ok (.getfield 82, 3) := by decide +kernel
theorem dX8_hearer_27 : decode cX8_hearer 27 = .ok (.bipush 6, 2) := by decide +kernel
theorem dX8_hearer_29 : decode cX8_hearer 29 = .ok (.if_icmp .ne 6, 3) := by decide +kernel
theorem dX8_hearer_32 : decode cX8_hearer 32 = .ok (.bipush (-4), 2) := by decide +kernel
theorem dX8_hearer_34 : decode cX8_hearer 34 = .ok (.ireturn, 1) := by decide +kernel
theorem dX8_hearer_35 : decode cX8_hearer 35 = .ok (.aload_n 0, 1) := by decide +kernel
theorem dX8_hearer_36 : decode cX8_hearer 36 = .ok (.getfield 19, 3) := by decide +kernel
theorem dX8_hearer_39 : decode cX8_hearer 39 = .ok (.iconst 5, 1) := by decide +kernel
theorem dX8_hearer_40 : decode cX8_hearer 40 = .ok (.aload_n 0, 1) := by decide +kernel
theorem dX8_hearer_41 : decode cX8_hearer 41 = .ok (.getfield 82, 3) := by decide +kernel
theorem dX8_hearer_44 : decode cX8_hearer 44 = .ok (.imul, 1) := by decide +kernel
theorem dX8_hearer_45 : decode cX8_hearer 45 = .ok (.iload_n 1, 1) := by decide +kernel
theorem dX8_hearer_46 : decode cX8_hearer 46 = .ok (.iastore, 1) := by decide +kernel
theorem dX8_hearer_47 : decode cX8_hearer 47 = .ok (.aload_n 0, 1) := by decide +kernel
theorem dX8_hearer_48 : decode cX8_hearer 48 = .ok (.getfield 19, 3) := by decide +kernel
theorem dX8_hearer_51 : decode cX8_hearer 51 = .ok (.iconst 5, 1) := by decide +kernel
theorem dX8_hearer_52 : decode cX8_hearer 52 = .ok (.aload_n 0, 1) := by decide +kernel
theorem dX8_hearer_53 : decode cX8_hearer 53 = .ok (.getfield 82, 3) := by decide +kernel
theorem dX8_hearer_56 : decode cX8_hearer 56 = .ok (.imul, 1) := by decide +kernel
theorem dX8_hearer_57 : decode cX8_hearer 57 = .ok (.iconst 1, 1) := by decide +kernel
theorem dX8_hearer_58 : decode cX8_hearer 58 = .ok (.iadd, 1) := by decide +kernel
theorem dX8_hearer_59 : decode cX8_hearer 59 = .ok (.iconst 0, 1) := by decide +kernel
theorem dX8_hearer_60 : decode cX8_hearer 60 = .ok (.iastore, 1) := by decide +kernel
theorem dX8_hearer_61 : decode cX8_hearer 61 = .ok (.aload_n 0, 1) := by decide +kernel
theorem dX8_hearer_62 : decode cX8_hearer 62 = .ok (.getfield 19, 3) := by decide +kernel
theorem dX8_hearer_65 : decode cX8_hearer 65 = .ok (.iconst 5, 1) := by decide +kernel
theorem dX8_hearer_66 : decode cX8_hearer 66 = .ok (.aload_n 0, 1) := by decide +kernel
theorem dX8_hearer_67 : decode cX8_hearer 67 = .ok (.getfield 82, 3) := by decide +kernel
theorem dX8_hearer_70 : decode cX8_hearer 70 = .ok (.imul, 1) := by decide +kernel
theorem dX8_hearer_71 : decode cX8_hearer 71 = .ok (.iconst 2, 1) := by decide +kernel
theorem dX8_hearer_72 : decode cX8_hearer 72 = .ok (.iadd, 1) := by decide +kernel
theorem dX8_hearer_73 : decode cX8_hearer 73 = .ok (.iconst 0, 1) := by decide +kernel
theorem dX8_hearer_74 : decode cX8_hearer 74 = .ok (.iastore, 1) := by decide +kernel
theorem dX8_hearer_75 : decode cX8_hearer 75 = .ok (.aload_n 0, 1) := by decide +kernel
theorem dX8_hearer_76 : decode cX8_hearer 76 = .ok (.getfield 19, 3) := by decide +kernel
theorem dX8_hearer_79 : decode cX8_hearer 79 = .ok (.iconst 5, 1) := by decide +kernel
theorem dX8_hearer_80 : decode cX8_hearer 80 = .ok (.aload_n 0, 1) := by decide +kernel
theorem dX8_hearer_81 : decode cX8_hearer 81 = .ok (.getfield 82, 3) := by decide +kernel
theorem dX8_hearer_84 : decode cX8_hearer 84 = .ok (.imul, 1) := by decide +kernel
theorem dX8_hearer_85 : decode cX8_hearer 85 = .ok (.iconst 3, 1) := by decide +kernel
theorem dX8_hearer_86 : decode cX8_hearer 86 = .ok (.iadd, 1) := by decide +kernel
theorem dX8_hearer_87 : decode cX8_hearer 87 = .ok (.iconst 0, 1) := by decide +kernel
theorem dX8_hearer_88 : decode cX8_hearer 88 = .ok (.iastore, 1) := by decide +kernel
theorem dX8_hearer_89 : decode cX8_hearer 89 = .ok (.aload_n 0, 1) := by decide +kernel
theorem dX8_hearer_90 : decode cX8_hearer 90 = .ok (.getfield 19, 3) := by decide +kernel
theorem dX8_hearer_93 : decode cX8_hearer 93 = .ok (.iconst 5, 1) := by decide +kernel
theorem dX8_hearer_94 : decode cX8_hearer 94 = .ok (.aload_n 0, 1) := by decide +kernel
theorem dX8_hearer_95 : decode cX8_hearer 95 = .ok (.getfield 82, 3) := by decide +kernel
theorem dX8_hearer_98 : decode cX8_hearer 98 = .ok (.imul, 1) := by decide +kernel
theorem dX8_hearer_99 : decode cX8_hearer 99 = .ok (.iconst 4, 1) := by decide +kernel
theorem dX8_hearer_100 : decode cX8_hearer 100 = .ok (.iadd, 1) := by decide +kernel
theorem dX8_hearer_101 : decode cX8_hearer 101 = .ok (.iload_n 2, 1) := by decide +kernel
theorem dX8_hearer_102 : decode cX8_hearer 102 = .ok (.iastore, 1) := by decide +kernel
theorem dX8_hearer_103 : decode cX8_hearer 103 = .ok (.aload_n 0, 1) := by decide +kernel
theorem dX8_hearer_104 : decode cX8_hearer 104 = .ok (.dup, 1) := by decide +kernel
theorem dX8_hearer_105 : decode cX8_hearer 105 = .ok (.getfield 82, 3) := by decide +kernel
theorem dX8_hearer_108 : decode cX8_hearer 108 = .ok (.iconst 1, 1) := by decide +kernel
theorem dX8_hearer_109 : decode cX8_hearer 109 = .ok (.iadd, 1) := by decide +kernel
theorem dX8_hearer_110 : decode cX8_hearer 110 = .ok (.putfield 82, 3) := by decide +kernel
theorem dX8_hearer_113 : decode cX8_hearer 113 = .ok (.aload_n 0, 1) := by decide +kernel
theorem dX8_hearer_114 : decode cX8_hearer 114 = .ok (.getfield 82, 3) := by decide +kernel
theorem dX8_hearer_117 : decode cX8_hearer 117 = .ok (.iconst 1, 1) := by decide +kernel
theorem dX8_hearer_118 : decode cX8_hearer 118 = .ok (.isub, 1) := by decide +kernel
theorem dX8_hearer_119 : decode cX8_hearer 119 = .ok (.ireturn, 1) := by decide +kernel
theorem dX8_isSo_0 : decode cX8_isSo 0 = .ok (.iload_n 2, 1) := by decide +kernel
theorem dX8_isSo_1 : decode cX8_isSo 1 = .ok (.tableswitch 84 0 3 #[31, 39, 48, 70], 31) := by decide +kernel
theorem dX8_isSo_32 : decode cX8_isSo 32 = .ok (.iload_n 3, 1) := by decide +kernel
theorem dX8_isSo_33 : decode cX8_isSo 33 = .ok (.iconst 0, 1) := by decide +kernel
theorem dX8_isSo_34 : decode cX8_isSo 34 = .ok (.bipush 9, 2) := by decide +kernel
theorem dX8_isSo_36 : decode cX8_isSo 36 = .ok (.invokestatic 78, 3) := by decide +kernel
theorem dX8_isSo_39 : decode cX8_isSo 39 = .ok (.ireturn, 1) := by decide +kernel
theorem dX8_isSo_40 : decode cX8_isSo 40 = .ok (.iload_n 3, 1) := by decide +kernel
theorem dX8_isSo_41 : decode cX8_isSo 41 = .ok (.iconst 0, 1) := by decide +kernel
theorem dX8_isSo_42 : decode cX8_isSo 42 = .ok (.sipush 9999, 3) := by decide +kernel
theorem dX8_isSo_45 : decode cX8_isSo 45 = .ok (.invokestatic 78, 3) := by decide +kernel
theorem dX8_isSo_48 : decode cX8_isSo 48 = .ok (.ireturn, 1) := by decide +kernel
theorem dX8_isSo_49 : decode cX8_isSo 49 = .ok (.aload_n 0, 1) := by decide +kernel
theorem dX8_isSo_50 : decode cX8_isSo 50 = .ok (.iload_n 3, 1) := by decide +kernel
theorem dX8_isSo_51 : decode cX8_isSo 51 = .ok (.invokevirtual 180, 3) := by decide +kernel
theorem dX8_isSo_54 : decode cX8_isSo 54 = .ok (.ifCond .eq 15, 3) := by decide +kernel
theorem dX8_isSo_57 : decode cX8_isSo 57 = .ok (.iload_n 3, 1) := by decide +kernel
theorem dX8_isSo_58 : decode cX8_isSo 58 = .ok (.iload_n 1, 1) := by decide +kernel
theorem dX8_isSo_59 : decode cX8_isSo 59 = .ok (.ishr, 1) := by decide +kernel
theorem dX8_isSo_60 : decode cX8_isSo 60 = .ok (.iconst 1, 1) := by decide +kernel
theorem dX8_isSo_61 : decode cX8_isSo 61 = .ok (.iand, 1) := by decide +kernel
theorem dX8_isSo_62 : decode cX8_isSo 62 = .ok (.ifCond .ne 7, 3) := by decide +kernel
theorem dX8_isSo_65 : decode cX8_isSo 65 = .ok (.iconst 1, 1) := by decide +kernel
theorem dX8_isSo_66 : decode cX8_isSo 66 = .ok (.goto 4, 3) := by decide +kernel
theorem dX8_isSo_69 : decode cX8_isSo 69 = .ok (.iconst 0, 1) := by decide +kernel
theorem dX8_isSo_70 : decode cX8_isSo 70 = .ok (.ireturn, 1) := by decide +kernel
theorem dX8_isSo_71 : decode cX8_isSo 71 = .ok (.iload_n 3, 1) := by decide +kernel
theorem dX8_isSo_72 : decode cX8_isSo 72 = .ok (.iconst 0, 1) := by decide +kernel
theorem dX8_isSo_73 : decode cX8_isSo 73 = .ok (.iconst 1, 1) := by decide +kernel
theorem dX8_isSo_74 : decode cX8_isSo 74 = .ok (.aload_n 0, 1) := by decide +kernel
theorem dX8_isSo_75 : decode cX8_isSo 75 = .ok (.getfield 75, 3) := by decide +kernel
theorem dX8_isSo_78 : decode cX8_isSo 78 = .ok (.ishl, 1) := by decide +kernel
theorem dX8_isSo_79 : decode cX8_isSo 79 = .ok (.iconst 1, 1) := by decide +kernel
theorem dX8_isSo_80 : decode cX8_isSo 80 = .ok (.isub, 1) := by decide +kernel
theorem dX8_isSo_81 : decode cX8_isSo 81 = .ok (.invokestatic 78, 3) := by decide +kernel
theorem dX8_isSo_84 : decode cX8_isSo 84 = .ok (.ireturn, 1) := by decide +kernel
theorem dX8_isSo_85 : decode cX8_isSo 85 = .ok (.iload_n 2, 1) := by decide +kernel
theorem dX8_isSo_86 : decode cX8_isSo 86 = .ok (.iconst 4, 1) := by decide +kernel
theorem dX8_isSo_87 : decode cX8_isSo 87 = .ok (.if_icmp .ne 17, 3) := by decide +kernel
theorem dX8_isSo_90 : decode cX8_isSo 90 = .ok (.iload_n 3, 1) := by decide +kernel
theorem dX8_isSo_91 : decode cX8_isSo 91 = .ok (.iconst 1, 1) := by decide +kernel
theorem dX8_isSo_92 : decode cX8_isSo 92 = .ok (.bipush 9, 2) := by decide +kernel
theorem dX8_isSo_94 : decode cX8_isSo 94 = .ok (.invokestatic 78, 3) := by decide +kernel
theorem dX8_isSo_97 : decode cX8_isSo 97 = .ok (.ifCond .eq 7, 3) := by decide +kernel
theorem dX8_isSo_100 : decode cX8_isSo 100 = .ok (.iconst 1, 1) := by decide +kernel
theorem dX8_isSo_101 : decode cX8_isSo 101 = .ok (.goto 4, 3) := by decide +kernel
theorem dX8_isSo_104 : decode cX8_isSo 104 = .ok (.iconst 0, 1) := by decide +kernel
theorem dX8_isSo_105 : decode cX8_isSo 105 = .ok (.ireturn, 1) := by decide +kernel
theorem dX8_set_0 : decode cX8_set 0 = .ok (.aload_n 0, 1) := by decide +kernel
theorem dX8_set_1 : decode cX8_set 1 = .ok (.iload_n 1, 1) := by decide +kernel
theorem dX8_set_2 : decode cX8_set 2 = .ok (.invokevirtual 167, 3) := by decide +kernel
theorem dX8_set_5 : decode cX8_set 5 = .ok (.ifCond .ne 6, 3) := by decide +kernel
theorem dX8_set_8 : decode cX8_set 8 = .ok (.bipush (-5), 2) := by decide +kernel
theorem dX8_set_10 : decode cX8_set 10 = .ok (.ireturn, 1) := by decide +kernel
theorem dX8_set_11 : decode cX8_set 11 = .ok (.aload_n 0, 1) := by decide +kernel
theorem dX8_set_12 : decode cX8_set 12 = .ok (.iload_n 1, 1) := by decide +kernel
theorem dX8_set_13 : decode cX8_set 13 = .ok (.iload_n 2, 1) := by decide +kernel
theorem dX8_set_14 : decode cX8_set 14 = .ok (.iload_n 3, 1) := by decide +kernel
theorem dX8_set_15 : decode cX8_set 15 = .ok (.invokevirtual 183, 3) := by decide +kernel
theorem dX8_set_18 : decode cX8_set 18 = .ok (.ifCond .ne 6, 3) := by decide +kernel
theorem dX8_set_21 : decode cX8_set 21 = .ok (.bipush (-7), 2) := by decide +kernel
theorem dX8_set_23 : decode cX8_set 23 = .ok (.ireturn, 1) := by decide +kernel
theorem dX8_set_24 : decode cX8_set 24 = .ok (.aload_n 0, 1) := by decide +kernel
theorem dX8_set_25 : decode cX8_set 25 = .ok (.getfield 19, 3) := by decide +kernel
theorem dX8_set_28 : decode cX8_set 28 = .ok (.iconst 5, 1) := by decide +kernel
theorem dX8_set_29 : decode cX8_set 29 = .ok (.iload_n 1, 1) := by decide +kernel
theorem dX8_set_30 : decode cX8_set 30 = .ok (.imul, 1) := by decide +kernel
theorem dX8_set_31 : decode cX8_set 31 = .ok (.iload_n 2, 1) := by decide +kernel
theorem dX8_set_32 : decode cX8_set 32 = .ok (.iadd, 1) := by decide +kernel
theorem dX8_set_33 : decode cX8_set 33 = .ok (.iaload, 1) := by decide +kernel
theorem dX8_set_34 : decode cX8_set 34 = .ok (.istore 4, 2) := by decide +kernel
theorem dX8_set_36 : decode cX8_set 36 = .ok (.aload_n 0, 1) := by decide +kernel
theorem dX8_set_37 : decode cX8_set 37 = .ok (.getfield 19, 3) := by decide +kernel
theorem dX8_set_40 : decode cX8_set 40 = .ok (.iconst 5, 1) := by decide +kernel
theorem dX8_set_41 : decode cX8_set 41 = .ok (.iload_n 1, 1) := by decide +kernel
theorem dX8_set_42 : decode cX8_set 42 = .ok (.imul, 1) := by decide +kernel
theorem dX8_set_43 : decode cX8_set 43 = .ok (.iload_n 2, 1) := by decide +kernel
theorem dX8_set_44 : decode cX8_set 44 = .ok (.iadd, 1) := by decide +kernel
theorem dX8_set_45 : decode cX8_set 45 = .ok (.iload_n 3, 1) := by decide +kernel
theorem dX8_set_46 : decode cX8_set 46 = .ok (.iastore, 1) := by decide +kernel
theorem dX8_set_47 : decode cX8_set 47 = .ok (.iload 4, 2) := by decide +kernel
theorem dX8_set_49 : decode cX8_set 49 = .ok (.ireturn, 1) := by decide +kernel
theorem dX8_of_0 : decode cX8_of 0 = .ok (.aload_n 0, 1) := by decide +kernel
theorem dX8_of_1 : decode cX8_of 1 = .ok (.iload_n 1, 1) := by decide +kernel
theorem dX8_of_2 : decode cX8_of 2 = .ok (.invokevirtual 167, 3) := by decide +kernel
theorem dX8_of_5 : decode cX8_of 5 = .ok (.ifCond .ne 6, 3) := by decide +kernel
theorem dX8_of_8 : decode cX8_of 8 = .ok (.bipush (-5), 2) := by decide +kernel
theorem dX8_of_10 : decode cX8_of 10 = .ok (.ireturn, 1) := by decide +kernel
theorem dX8_of_11 : decode cX8_of 11 = .ok (.iload_n 2, 1) := by decide +kernel
theorem dX8_of_12 : decode cX8_of 12 = .ok (.iconst 0, 1) := by decide +kernel
theorem dX8_of_13 : decode cX8_of 13 = .ok (.iconst 4, 1) := by decide +kernel
theorem dX8_of_14 : decode cX8_of 14 = .ok (.invokestatic 78, 3) := by decide +kernel
theorem dX8_of_17 : decode cX8_of 17 = .ok (.ifCond .eq 16, 3) := by decide +kernel
theorem dX8_of_20 : decode cX8_of 20 = .ok (.aload_n 0, 1) := by decide +kernel
theorem dX8_of_21 : decode cX8_of 21 = .ok (.getfield 19, 3) := by decide +kernel
theorem dX8_of_24 : decode cX8_of 24 = .ok (.iconst 5, 1) := by decide +kernel
theorem dX8_of_25 : decode cX8_of 25 = .ok (.iload_n 1, 1) := by decide +kernel
theorem dX8_of_26 : decode cX8_of 26 = .ok (.imul, 1) := by decide +kernel
theorem dX8_of_27 : decode cX8_of 27 = .ok (.iload_n 2, 1) := by decide +kernel
theorem dX8_of_28 : decode cX8_of 28 = .ok (.iadd, 1) := by decide +kernel
theorem dX8_of_29 : decode cX8_of 29 = .ok (.iaload, 1) := by decide +kernel
theorem dX8_of_30 : decode cX8_of 30 = .ok (.goto 5, 3) := by decide +kernel
theorem dX8_of_33 : decode cX8_of 33 = .ok (.bipush (-7), 2) := by decide +kernel
theorem dX8_of_35 : decode cX8_of 35 = .ok (.ireturn, 1) := by decide +kernel
theorem dX8_plainOf_0 : decode cX8_plainOf 0 = .ok (.iload_n 0, 1) := by decide +kernel
theorem dX8_plainOf_1 : decode cX8_plainOf 1 = .ok (.iconst 2, 1) := by decide +kernel
theorem dX8_plainOf_2 : decode cX8_plainOf 2 = .ok (.iload_n 1, 1) := by decide +kernel
theorem dX8_plainOf_3 : decode cX8_plainOf 3 = .ok (.imul, 1) := by decide +kernel
theorem dX8_plainOf_4 : decode cX8_plainOf 4 = .ok (.isub, 1) := by decide +kernel
theorem dX8_plainOf_5 : decode cX8_plainOf 5 = .ok (.istore_n 3, 1) := by decide +kernel
theorem dX8_plainOf_6 : decode cX8_plainOf 6 = .ok (.iload_n 2, 1) := by decide +kernel
theorem dX8_plainOf_7 : decode cX8_plainOf 7 = .ok (.ifCond .eq 9, 3) := by decide +kernel
theorem dX8_plainOf_10 : decode cX8_plainOf 10 = .ok (.iload_n 3, 1) := by decide +kernel
theorem dX8_plainOf_11 : decode cX8_plainOf 11 = .ok (.iconst 2, 1) := by decide +kernel
theorem dX8_plainOf_12 : decode cX8_plainOf 12 = .ok (.idiv, 1) := by decide +kernel
theorem dX8_plainOf_13 : decode cX8_plainOf 13 = .ok (.goto 4, 3) := by decide +kernel
theorem dX8_plainOf_16 : decode cX8_plainOf 16 = .ok (.iload_n 3, 1) := by decide +kernel
theorem dX8_plainOf_17 : decode cX8_plainOf 17 = .ok (.ireturn, 1) := by decide +kernel
theorem dX8_yieldsOf_0 : decode cX8_yieldsOf 0 = .ok (.aload_n 0, 1) := by decide +kernel
theorem dX8_yieldsOf_1 : decode cX8_yieldsOf 1 = .ok (.iconst 0, 1) := by decide +kernel
theorem dX8_yieldsOf_2 : decode cX8_yieldsOf 2 = .ok (.aload_n 0, 1) := by decide +kernel
theorem dX8_yieldsOf_3 : decode cX8_yieldsOf 3 = .ok (.getfield 16, 3) := by decide +kernel
theorem dX8_yieldsOf_6 : decode cX8_yieldsOf 6 = .ok (.iload_n 1, 1) := by decide +kernel
theorem dX8_yieldsOf_7 : decode cX8_yieldsOf 7 = .ok (.iaload, 1) := by decide +kernel
theorem dX8_yieldsOf_8 : decode cX8_yieldsOf 8 = .ok (.iload_n 2, 1) := by decide +kernel
theorem dX8_yieldsOf_9 : decode cX8_yieldsOf 9 = .ok (.aload_n 0, 1) := by decide +kernel
theorem dX8_yieldsOf_10 : decode cX8_yieldsOf 10 = .ok (.getfield 13, 3) := by decide +kernel
theorem dX8_yieldsOf_13 : decode cX8_yieldsOf 13 = .ok (.iload_n 1, 1) := by decide +kernel
theorem dX8_yieldsOf_14 : decode cX8_yieldsOf 14 = .ok (.iaload, 1) := by decide +kernel
theorem dX8_yieldsOf_15 : decode cX8_yieldsOf 15 = .ok (.invokevirtual 170, 3) := by decide +kernel
theorem dX8_yieldsOf_18 : decode cX8_yieldsOf 18 = .ok (.istore_n 3, 1) := by decide +kernel
theorem dX8_yieldsOf_19 : decode cX8_yieldsOf 19 = .ok (.aload_n 0, 1) := by decide +kernel
theorem dX8_yieldsOf_20 : decode cX8_yieldsOf 20 = .ok (.getfield 16, 3) := by decide +kernel
theorem dX8_yieldsOf_23 : decode cX8_yieldsOf 23 = .ok (.iload_n 1, 1) := by decide +kernel
theorem dX8_yieldsOf_24 : decode cX8_yieldsOf 24 = .ok (.iaload, 1) := by decide +kernel
theorem dX8_yieldsOf_25 : decode cX8_yieldsOf 25 = .ok (.istore 4, 2) := by decide +kernel
theorem dX8_yieldsOf_27 : decode cX8_yieldsOf 27 = .ok (.aload_n 0, 1) := by decide +kernel
theorem dX8_yieldsOf_28 : decode cX8_yieldsOf 28 = .ok (.getfield 13, 3) := by decide +kernel
theorem dX8_yieldsOf_31 : decode cX8_yieldsOf 31 = .ok (.iload_n 1, 1) := by decide +kernel
theorem dX8_yieldsOf_32 : decode cX8_yieldsOf 32 = .ok (.iaload, 1) := by decide +kernel
theorem dX8_yieldsOf_33 : decode cX8_yieldsOf 33 = .ok (.istore 5, 2) := by decide +kernel
theorem dX8_yieldsOf_35 : decode cX8_yieldsOf 35 = .ok (.aload_n 0, 1) := by decide +kernel
theorem dX8_yieldsOf_36 : decode cX8_yieldsOf 36 = .ok (.getfield 19, 3) := by decide +kernel
theorem dX8_yieldsOf_39 : decode cX8_yieldsOf 39 = .ok (.iconst 5, 1) := by decide +kernel
theorem dX8_yieldsOf_40 : decode cX8_yieldsOf 40 = .ok (.iload_n 2, 1) := by decide +kernel
theorem dX8_yieldsOf_41 : decode cX8_yieldsOf 41 = .ok (.imul, 1) := by decide +kernel
theorem dX8_yieldsOf_42 : decode cX8_yieldsOf 42 = .ok (.iconst 3, 1) := by decide +kernel
theorem dX8_yieldsOf_43 : decode cX8_yieldsOf 43 = .ok (.iadd, 1) := by decide +kernel
theorem dX8_yieldsOf_44 : decode cX8_yieldsOf 44 = .ok (.iaload, 1) := by decide +kernel
theorem dX8_yieldsOf_45 : decode cX8_yieldsOf 45 = .ok (.iload_n 1, 1) := by decide +kernel
theorem dX8_yieldsOf_46 : decode cX8_yieldsOf 46 = .ok (.ishr, 1) := by decide +kernel
theorem dX8_yieldsOf_47 : decode cX8_yieldsOf 47 = .ok (.iconst 1, 1) := by decide +kernel
theorem dX8_yieldsOf_48 : decode cX8_yieldsOf 48 = .ok (.iand, 1) := by decide +kernel
theorem dX8_yieldsOf_49 : decode cX8_yieldsOf 49 = .ok (.iconst 1, 1) := by decide +kernel
theorem dX8_yieldsOf_50 : decode cX8_yieldsOf 50 = .ok (.if_icmp .ne 7, 3) := by decide +kernel
theorem dX8_yieldsOf_53 : decode cX8_yieldsOf 53 = .ok (.iconst 1, 1) := by decide +kernel
theorem dX8_yieldsOf_54 : decode cX8_yieldsOf 54 = .ok (.goto 4, 3) := by decide +kernel
theorem dX8_yieldsOf_57 : decode cX8_yieldsOf 57 = .ok (.iconst 0, 1) := by decide +kernel
theorem dX8_yieldsOf_58 : decode cX8_yieldsOf 58 = .ok (.istore 6, 2) := by decide +kernel
theorem dX8_yieldsOf_60 : decode cX8_yieldsOf 60 = .ok (.iload_n 3, 1) := by decide +kernel
theorem dX8_yieldsOf_61 : decode cX8_yieldsOf 61 = .ok (.iload 4, 2) := by decide +kernel
theorem dX8_yieldsOf_63 : decode cX8_yieldsOf 63 = .ok (.iload 6, 2) := by decide +kernel
theorem dX8_yieldsOf_65 : decode cX8_yieldsOf 65 = .ok (.invokestatic 186, 3) := by decide +kernel
theorem dX8_yieldsOf_68 : decode cX8_yieldsOf 68 = .ok (.istore 7, 2) := by decide +kernel
theorem dX8_yieldsOf_70 : decode cX8_yieldsOf 70 = .ok (.aload_n 0, 1) := by decide +kernel
theorem dX8_yieldsOf_71 : decode cX8_yieldsOf 71 = .ok (.getfield 7, 3) := by decide +kernel
theorem dX8_yieldsOf_74 : decode cX8_yieldsOf 74 = .ok (.iload_n 1, 1) := by decide +kernel
theorem dX8_yieldsOf_75 : decode cX8_yieldsOf 75 = .ok (.iaload, 1) := by decide +kernel
theorem dX8_yieldsOf_76 : decode cX8_yieldsOf 76 = .ok (.tableswitch 142 1 5 #[36, 48, 60, 88, 129], 36) := by decide +kernel
theorem dX8_yieldsOf_112 : decode cX8_yieldsOf 112 = .ok (.iload 7, 2) := by decide +kernel
theorem dX8_yieldsOf_114 : decode cX8_yieldsOf 114 = .ok (.iconst 2, 1) := by decide +kernel
theorem dX8_yieldsOf_115 : decode cX8_yieldsOf 115 = .ok (.idiv, 1) := by decide +kernel
theorem dX8_yieldsOf_116 : decode cX8_yieldsOf 116 = .ok (.iload 5, 2) := by decide +kernel
theorem dX8_yieldsOf_118 : decode cX8_yieldsOf 118 = .ok (.iadd, 1) := by decide +kernel
theorem dX8_yieldsOf_119 : decode cX8_yieldsOf 119 = .ok (.istore 7, 2) := by decide +kernel
theorem dX8_yieldsOf_121 : decode cX8_yieldsOf 121 = .ok (.goto 97, 3) := by decide +kernel
theorem dX8_yieldsOf_124 : decode cX8_yieldsOf 124 = .ok (.iload 7, 2) := by decide +kernel
theorem dX8_yieldsOf_126 : decode cX8_yieldsOf 126 = .ok (.iconst 2, 1) := by decide +kernel
theorem dX8_yieldsOf_127 : decode cX8_yieldsOf 127 = .ok (.iload 5, 2) := by decide +kernel
theorem dX8_yieldsOf_129 : decode cX8_yieldsOf 129 = .ok (.imul, 1) := by decide +kernel
theorem dX8_yieldsOf_130 : decode cX8_yieldsOf 130 = .ok (.iadd, 1) := by decide +kernel
theorem dX8_yieldsOf_131 : decode cX8_yieldsOf 131 = .ok (.istore 7, 2) := by decide +kernel
theorem dX8_yieldsOf_133 : decode cX8_yieldsOf 133 = .ok (.goto 85, 3) := by decide +kernel
theorem dX8_yieldsOf_136 : decode cX8_yieldsOf 136 = .ok (.iload_n 3, 1) := by decide +kernel
theorem dX8_yieldsOf_137 : decode cX8_yieldsOf 137 = .ok (.iload 4, 2) := by decide +kernel
theorem dX8_yieldsOf_139 : decode cX8_yieldsOf 139 = .ok (.iconst 0, 1) := by decide +kernel
theorem dX8_yieldsOf_140 : decode cX8_yieldsOf 140 = .ok (.invokestatic 186, 3) := by decide +kernel
theorem dX8_yieldsOf_143 : decode cX8_yieldsOf 143 = .ok (.iconst 2, 1) := by decide +kernel
theorem dX8_yieldsOf_144 : decode cX8_yieldsOf 144 = .ok (.idiv, 1) := by decide +kernel
theorem dX8_yieldsOf_145 : decode cX8_yieldsOf 145 = .ok (.iload 5, 2) := by decide +kernel
theorem dX8_yieldsOf_147 : decode cX8_yieldsOf 147 = .ok (.iadd, 1) := by decide +kernel
theorem dX8_yieldsOf_148 : decode cX8_yieldsOf 148 = .ok (.iload 6, 2) := by decide +kernel
theorem dX8_yieldsOf_150 : decode cX8_yieldsOf 150 = .ok (.ifCond .eq 7, 3) := by decide +kernel
theorem dX8_yieldsOf_153 : decode cX8_yieldsOf 153 = .ok (.iconst 0, 1) := by decide +kernel
theorem dX8_yieldsOf_154 : decode cX8_yieldsOf 154 = .ok (.goto 4, 3) := by decide +kernel
theorem dX8_yieldsOf_157 : decode cX8_yieldsOf 157 = .ok (.iconst 3, 1) := by decide +kernel
theorem dX8_yieldsOf_158 : decode cX8_yieldsOf 158 = .ok (.isub, 1) := by decide +kernel
theorem dX8_yieldsOf_159 : decode cX8_yieldsOf 159 = .ok (.istore 7, 2) := by decide +kernel
theorem dX8_yieldsOf_161 : decode cX8_yieldsOf 161 = .ok (.goto 57, 3) := by decide +kernel
theorem dX8_yieldsOf_164 : decode cX8_yieldsOf 164 = .ok (.iload 4, 2) := by decide +kernel
theorem dX8_yieldsOf_166 : decode cX8_yieldsOf 166 = .ok (.bipush 9, 2) := by decide +kernel
theorem dX8_yieldsOf_168 : decode cX8_yieldsOf 168 = .ok (.if_icmp .le 25, 3) := by decide +kernel
theorem dX8_yieldsOf_171 : decode cX8_yieldsOf 171 = .ok (.iload_n 3, 1) := by decide +kernel
theorem dX8_yieldsOf_172 : decode cX8_yieldsOf 172 = .ok (.iload 4, 2) := by decide +kernel
theorem dX8_yieldsOf_174 : decode cX8_yieldsOf 174 = .ok (.bipush 9, 2) := by decide +kernel
theorem dX8_yieldsOf_176 : decode cX8_yieldsOf 176 = .ok (.isub, 1) := by decide +kernel
theorem dX8_yieldsOf_177 : decode cX8_yieldsOf 177 = .ok (.iload 6, 2) := by decide +kernel
theorem dX8_yieldsOf_179 : decode cX8_yieldsOf 179 = .ok (.invokestatic 186, 3) := by decide +kernel
theorem dX8_yieldsOf_182 : decode cX8_yieldsOf 182 = .ok (.iconst 2, 1) := by decide +kernel
theorem dX8_yieldsOf_183 : decode cX8_yieldsOf 183 = .ok (.iload 5, 2) := by decide +kernel
theorem dX8_yieldsOf_185 : decode cX8_yieldsOf 185 = .ok (.imul, 1) := by decide +kernel
theorem dX8_yieldsOf_186 : decode cX8_yieldsOf 186 = .ok (.iadd, 1) := by decide +kernel
theorem dX8_yieldsOf_187 : decode cX8_yieldsOf 187 = .ok (.bipush 10, 2) := by decide +kernel
theorem dX8_yieldsOf_189 : decode cX8_yieldsOf 189 = .ok (.iadd, 1) := by decide +kernel
theorem dX8_yieldsOf_190 : decode cX8_yieldsOf 190 = .ok (.goto 10, 3) := by decide +kernel
theorem dX8_yieldsOf_193 : decode cX8_yieldsOf 193 = .ok (.iload 7, 2) := by decide +kernel
theorem dX8_yieldsOf_195 : decode cX8_yieldsOf 195 = .ok (.iconst 2, 1) := by decide +kernel
theorem dX8_yieldsOf_196 : decode cX8_yieldsOf 196 = .ok (.iload 5, 2) := by decide +kernel
theorem dX8_yieldsOf_198 : decode cX8_yieldsOf 198 = .ok (.imul, 1) := by decide +kernel
theorem dX8_yieldsOf_199 : decode cX8_yieldsOf 199 = .ok (.iadd, 1) := by decide +kernel
theorem dX8_yieldsOf_200 : decode cX8_yieldsOf 200 = .ok (.istore 7, 2) := by decide +kernel
theorem dX8_yieldsOf_202 : decode cX8_yieldsOf 202 = .ok (.goto 16, 3) := by decide +kernel
theorem dX8_yieldsOf_205 : decode cX8_yieldsOf 205 = .ok (.iload 7, 2) := by decide +kernel
theorem dX8_yieldsOf_207 : decode cX8_yieldsOf 207 = .ok (.bipush 9, 2) := by decide +kernel
theorem dX8_yieldsOf_209 : decode cX8_yieldsOf 209 = .ok (.imul, 1) := by decide +kernel
theorem dX8_yieldsOf_210 : decode cX8_yieldsOf 210 = .ok (.bipush 10, 2) := by decide +kernel
theorem dX8_yieldsOf_212 : decode cX8_yieldsOf 212 = .ok (.idiv, 1) := by decide +kernel
theorem dX8_yieldsOf_213 : decode cX8_yieldsOf 213 = .ok (.istore 7, 2) := by decide +kernel
theorem dX8_yieldsOf_215 : decode cX8_yieldsOf 215 = .ok (.goto 3, 3) := by decide +kernel
theorem dX8_yieldsOf_218 : decode cX8_yieldsOf 218 = .ok (.iload 7, 2) := by decide +kernel
theorem dX8_yieldsOf_220 : decode cX8_yieldsOf 220 = .ok (.iconst 0, 1) := by decide +kernel
theorem dX8_yieldsOf_221 : decode cX8_yieldsOf 221 = .ok (.bipush 99, 2) := by decide +kernel
theorem dX8_yieldsOf_223 : decode cX8_yieldsOf 223 = .ok (.invokestatic 164, 3) := by decide +kernel
theorem dX8_yieldsOf_226 : decode cX8_yieldsOf 226 = .ok (.ireturn, 1) := by decide +kernel
theorem dX8_yields_0 : decode cX8_yields 0 = .ok (.aload_n 0, 1) := by decide +kernel
theorem dX8_yields_1 : decode cX8_yields 1 = .ok (.iload_n 1, 1) := by decide +kernel
theorem dX8_yields_2 : decode cX8_yields 2 = .ok (.invokevirtual 174, 3) := by decide +kernel
theorem dX8_yields_5 : decode cX8_yields 5 = .ok (.ifCond .ne 6, 3) := by decide +kernel
theorem dX8_yields_8 : decode cX8_yields 8 = .ok (.bipush (-5), 2) := by decide +kernel
theorem dX8_yields_10 : decode cX8_yields 10 = .ok (.ireturn, 1) := by decide +kernel
theorem dX8_yields_11 : decode cX8_yields 11 = .ok (.aload_n 0, 1) := by decide +kernel
theorem dX8_yields_12 : decode cX8_yields 12 = .ok (.iload_n 2, 1) := by decide +kernel
theorem dX8_yields_13 : decode cX8_yields 13 = .ok (.invokevirtual 167, 3) := by decide +kernel
theorem dX8_yields_16 : decode cX8_yields 16 = .ok (.ifCond .eq 12, 3) := by decide +kernel
theorem dX8_yields_19 : decode cX8_yields 19 = .ok (.aload_n 0, 1) := by decide +kernel
theorem dX8_yields_20 : decode cX8_yields 20 = .ok (.iload_n 1, 1) := by decide +kernel
theorem dX8_yields_21 : decode cX8_yields 21 = .ok (.iload_n 2, 1) := by decide +kernel
theorem dX8_yields_22 : decode cX8_yields 22 = .ok (.invokevirtual 190, 3) := by decide +kernel
theorem dX8_yields_25 : decode cX8_yields 25 = .ok (.goto 5, 3) := by decide +kernel
theorem dX8_yields_28 : decode cX8_yields 28 = .ok (.bipush (-6), 2) := by decide +kernel
theorem dX8_yields_30 : decode cX8_yields 30 = .ok (.ireturn, 1) := by decide +kernel
theorem dX8_tells_0 : decode cX8_tells 0 = .ok (.aload_n 0, 1) := by decide +kernel
theorem dX8_tells_1 : decode cX8_tells 1 = .ok (.iload_n 1, 1) := by decide +kernel
theorem dX8_tells_2 : decode cX8_tells 2 = .ok (.iload_n 2, 1) := by decide +kernel
theorem dX8_tells_3 : decode cX8_tells 3 = .ok (.invokevirtual 190, 3) := by decide +kernel
theorem dX8_tells_6 : decode cX8_tells 6 = .ok (.istore_n 3, 1) := by decide +kernel
theorem dX8_tells_7 : decode cX8_tells 7 = .ok (.iconst 5, 1) := by decide +kernel
theorem dX8_tells_8 : decode cX8_tells 8 = .ok (.aload_n 0, 1) := by decide +kernel
theorem dX8_tells_9 : decode cX8_tells 9 = .ok (.getfield 193, 3) := by decide +kernel
theorem dX8_tells_12 : decode cX8_tells 12 = .ok (.imul, 1) := by decide +kernel
theorem dX8_tells_13 : decode cX8_tells 13 = .ok (.istore 4, 2) := by decide +kernel
theorem dX8_tells_15 : decode cX8_tells 15 = .ok (.aload_n 0, 1) := by decide +kernel
theorem dX8_tells_16 : decode cX8_tells 16 = .ok (.getfield 61, 3) := by decide +kernel
theorem dX8_tells_19 : decode cX8_tells 19 = .ok (.iload 4, 2) := by decide +kernel
theorem dX8_tells_21 : decode cX8_tells 21 = .ok (.iload_n 1, 1) := by decide +kernel
theorem dX8_tells_22 : decode cX8_tells 22 = .ok (.iastore, 1) := by decide +kernel
theorem dX8_tells_23 : decode cX8_tells 23 = .ok (.aload_n 0, 1) := by decide +kernel
theorem dX8_tells_24 : decode cX8_tells 24 = .ok (.getfield 61, 3) := by decide +kernel
theorem dX8_tells_27 : decode cX8_tells 27 = .ok (.iload 4, 2) := by decide +kernel
theorem dX8_tells_29 : decode cX8_tells 29 = .ok (.iconst 1, 1) := by decide +kernel
theorem dX8_tells_30 : decode cX8_tells 30 = .ok (.iadd, 1) := by decide +kernel
theorem dX8_tells_31 : decode cX8_tells 31 = .ok (.iload_n 2, 1) := by decide +kernel
theorem dX8_tells_32 : decode cX8_tells 32 = .ok (.iastore, 1) := by decide +kernel
theorem dX8_tells_33 : decode cX8_tells 33 = .ok (.aload_n 0, 1) := by decide +kernel
theorem dX8_tells_34 : decode cX8_tells 34 = .ok (.getfield 61, 3) := by decide +kernel
theorem dX8_tells_37 : decode cX8_tells 37 = .ok (.iload 4, 2) := by decide +kernel
theorem dX8_tells_39 : decode cX8_tells 39 = .ok (.iconst 2, 1) := by decide +kernel
theorem dX8_tells_40 : decode cX8_tells 40 = .ok (.iadd, 1) := by decide +kernel
theorem dX8_tells_41 : decode cX8_tells 41 = .ok (.aload_n 0, 1) := by decide +kernel
theorem dX8_tells_42 : decode cX8_tells 42 = .ok (.getfield 16, 3) := by decide +kernel
theorem dX8_tells_45 : decode cX8_tells 45 = .ok (.iload_n 1, 1) := by decide +kernel
theorem dX8_tells_46 : decode cX8_tells 46 = .ok (.iaload, 1) := by decide +kernel
theorem dX8_tells_47 : decode cX8_tells 47 = .ok (.iastore, 1) := by decide +kernel
theorem dX8_tells_48 : decode cX8_tells 48 = .ok (.aload_n 0, 1) := by decide +kernel
theorem dX8_tells_49 : decode cX8_tells 49 = .ok (.getfield 61, 3) := by decide +kernel
theorem dX8_tells_52 : decode cX8_tells 52 = .ok (.iload 4, 2) := by decide +kernel
theorem dX8_tells_54 : decode cX8_tells 54 = .ok (.iconst 3, 1) := by decide +kernel
theorem dX8_tells_55 : decode cX8_tells 55 = .ok (.iadd, 1) := by decide +kernel
theorem dX8_tells_56 : decode cX8_tells 56 = .ok (.aload_n 0, 1) := by decide +kernel
theorem dX8_tells_57 : decode cX8_tells 57 = .ok (.getfield 19, 3) := by decide +kernel
theorem dX8_tells_60 : decode cX8_tells 60 = .ok (.iconst 5, 1) := by decide +kernel
theorem dX8_tells_61 : decode cX8_tells 61 = .ok (.iload_n 2, 1) := by decide +kernel
theorem dX8_tells_62 : decode cX8_tells 62 = .ok (.imul, 1) := by decide +kernel
theorem dX8_tells_63 : decode cX8_tells 63 = .ok (.iconst 1, 1) := by decide +kernel
theorem dX8_tells_64 : decode cX8_tells 64 = .ok (.iadd, 1) := by decide +kernel
theorem dX8_tells_65 : decode cX8_tells 65 = .ok (.iaload, 1) := by decide +kernel
theorem dX8_tells_66 : decode cX8_tells 66 = .ok (.iastore, 1) := by decide +kernel
theorem dX8_tells_67 : decode cX8_tells 67 = .ok (.aload_n 0, 1) := by decide +kernel
theorem dX8_tells_68 : decode cX8_tells 68 = .ok (.getfield 61, 3) := by decide +kernel
theorem dX8_tells_71 : decode cX8_tells 71 = .ok (.iload 4, 2) := by decide +kernel
theorem dX8_tells_73 : decode cX8_tells 73 = .ok (.iconst 4, 1) := by decide +kernel
theorem dX8_tells_74 : decode cX8_tells 74 = .ok (.iadd, 1) := by decide +kernel
theorem dX8_tells_75 : decode cX8_tells 75 = .ok (.aload_n 0, 1) := by decide +kernel
theorem dX8_tells_76 : decode cX8_tells 76 = .ok (.getfield 19, 3) := by decide +kernel
theorem dX8_tells_79 : decode cX8_tells 79 = .ok (.iconst 5, 1) := by decide +kernel
theorem dX8_tells_80 : decode cX8_tells 80 = .ok (.iload_n 2, 1) := by decide +kernel
theorem dX8_tells_81 : decode cX8_tells 81 = .ok (.imul, 1) := by decide +kernel
theorem dX8_tells_82 : decode cX8_tells 82 = .ok (.iconst 3, 1) := by decide +kernel
theorem dX8_tells_83 : decode cX8_tells 83 = .ok (.iadd, 1) := by decide +kernel
theorem dX8_tells_84 : decode cX8_tells 84 = .ok (.iaload, 1) := by decide +kernel
theorem dX8_tells_85 : decode cX8_tells 85 = .ok (.iastore, 1) := by decide +kernel
theorem dX8_tells_86 : decode cX8_tells 86 = .ok (.aload_n 0, 1) := by decide +kernel
theorem dX8_tells_87 : decode cX8_tells 87 = .ok (.dup, 1) := by decide +kernel
theorem dX8_tells_88 : decode cX8_tells 88 = .ok (.getfield 193, 3) := by decide +kernel
theorem dX8_tells_91 : decode cX8_tells 91 = .ok (.iconst 1, 1) := by decide +kernel
theorem dX8_tells_92 : decode cX8_tells 92 = .ok (.iadd, 1) := by decide +kernel
theorem dX8_tells_93 : decode cX8_tells 93 = .ok (.putfield 193, 3) := by decide +kernel
theorem dX8_tells_96 : decode cX8_tells 96 = .ok (.aload_n 0, 1) := by decide +kernel
theorem dX8_tells_97 : decode cX8_tells 97 = .ok (.getfield 19, 3) := by decide +kernel
theorem dX8_tells_100 : decode cX8_tells 100 = .ok (.iconst 5, 1) := by decide +kernel
theorem dX8_tells_101 : decode cX8_tells 101 = .ok (.iload_n 2, 1) := by decide +kernel
theorem dX8_tells_102 : decode cX8_tells 102 = .ok (.imul, 1) := by decide +kernel
theorem dX8_tells_103 : decode cX8_tells 103 = .ok (.iconst 1, 1) := by decide +kernel
theorem dX8_tells_104 : decode cX8_tells 104 = .ok (.iadd, 1) := by decide +kernel
theorem dX8_tells_105 : decode cX8_tells 105 = .ok (.aload_n 0, 1) := by decide +kernel
theorem dX8_tells_106 : decode cX8_tells 106 = .ok (.getfield 19, 3) := by decide +kernel
theorem dX8_tells_109 : decode cX8_tells 109 = .ok (.iconst 5, 1) := by decide +kernel
theorem dX8_tells_110 : decode cX8_tells 110 = .ok (.iload_n 2, 1) := by decide +kernel
theorem dX8_tells_111 : decode cX8_tells 111 = .ok (.imul, 1) := by decide +kernel
theorem dX8_tells_112 : decode cX8_tells 112 = .ok (.iconst 1, 1) := by decide +kernel
theorem dX8_tells_113 : decode cX8_tells 113 = .ok (.iadd, 1) := by decide +kernel
theorem dX8_tells_114 : decode cX8_tells 114 = .ok (.iaload, 1) := by decide +kernel
theorem dX8_tells_115 : decode cX8_tells 115 = .ok (.iload_n 3, 1) := by decide +kernel
theorem dX8_tells_116 : decode cX8_tells 116 = .ok (.iadd, 1) := by decide +kernel
theorem dX8_tells_117 : decode cX8_tells 117 = .ok (.iconst 0, 1) := by decide +kernel
theorem dX8_tells_118 : decode cX8_tells 118 = .ok (.sipush 9999, 3) := by decide +kernel
theorem dX8_tells_121 : decode cX8_tells 121 = .ok (.invokestatic 164, 3) := by decide +kernel
theorem dX8_tells_124 : decode cX8_tells 124 = .ok (.iastore, 1) := by decide +kernel
theorem dX8_tells_125 : decode cX8_tells 125 = .ok (.aload_n 0, 1) := by decide +kernel
theorem dX8_tells_126 : decode cX8_tells 126 = .ok (.getfield 16, 3) := by decide +kernel
theorem dX8_tells_129 : decode cX8_tells 129 = .ok (.iload_n 1, 1) := by decide +kernel
theorem dX8_tells_130 : decode cX8_tells 130 = .ok (.aload_n 0, 1) := by decide +kernel
theorem dX8_tells_131 : decode cX8_tells 131 = .ok (.getfield 16, 3) := by decide +kernel
theorem dX8_tells_134 : decode cX8_tells 134 = .ok (.iload_n 1, 1) := by decide +kernel
theorem dX8_tells_135 : decode cX8_tells 135 = .ok (.iaload, 1) := by decide +kernel
theorem dX8_tells_136 : decode cX8_tells 136 = .ok (.aload_n 0, 1) := by decide +kernel
theorem dX8_tells_137 : decode cX8_tells 137 = .ok (.iload_n 1, 1) := by decide +kernel
theorem dX8_tells_138 : decode cX8_tells 138 = .ok (.invokevirtual 196, 3) := by decide +kernel
theorem dX8_tells_141 : decode cX8_tells 141 = .ok (.iadd, 1) := by decide +kernel
theorem dX8_tells_142 : decode cX8_tells 142 = .ok (.iconst 0, 1) := by decide +kernel
theorem dX8_tells_143 : decode cX8_tells 143 = .ok (.bipush 99, 2) := by decide +kernel
theorem dX8_tells_145 : decode cX8_tells 145 = .ok (.invokestatic 164, 3) := by decide +kernel
theorem dX8_tells_148 : decode cX8_tells 148 = .ok (.iastore, 1) := by decide +kernel
theorem dX8_tells_149 : decode cX8_tells 149 = .ok (.aload_n 0, 1) := by decide +kernel
theorem dX8_tells_150 : decode cX8_tells 150 = .ok (.getfield 19, 3) := by decide +kernel
theorem dX8_tells_153 : decode cX8_tells 153 = .ok (.iconst 5, 1) := by decide +kernel
theorem dX8_tells_154 : decode cX8_tells 154 = .ok (.iload_n 2, 1) := by decide +kernel
theorem dX8_tells_155 : decode cX8_tells 155 = .ok (.imul, 1) := by decide +kernel
theorem dX8_tells_156 : decode cX8_tells 156 = .ok (.iconst 3, 1) := by decide +kernel
theorem dX8_tells_157 : decode cX8_tells 157 = .ok (.iadd, 1) := by decide +kernel
theorem dX8_tells_158 : decode cX8_tells 158 = .ok (.dup2, 1) := by decide +kernel
theorem dX8_tells_159 : decode cX8_tells 159 = .ok (.iaload, 1) := by decide +kernel
theorem dX8_tells_160 : decode cX8_tells 160 = .ok (.iconst 1, 1) := by decide +kernel
theorem dX8_tells_161 : decode cX8_tells 161 = .ok (.iload_n 1, 1) := by decide +kernel
theorem dX8_tells_162 : decode cX8_tells 162 = .ok (.ishl, 1) := by decide +kernel
theorem dX8_tells_163 : decode cX8_tells 163 = .ok (.ior, 1) := by decide +kernel
theorem dX8_tells_164 : decode cX8_tells 164 = .ok (.iastore, 1) := by decide +kernel
theorem dX8_tells_165 : decode cX8_tells 165 = .ok (.iload_n 3, 1) := by decide +kernel
theorem dX8_tells_166 : decode cX8_tells 166 = .ok (.ireturn, 1) := by decide +kernel
theorem dX8_takesBack_0 : decode cX8_takesBack 0 = .ok (.aload_n 0, 1) := by decide +kernel
theorem dX8_takesBack_1 : decode cX8_takesBack 1 = .ok (.getfield 193, 3) := by decide +kernel
theorem dX8_takesBack_4 : decode cX8_takesBack 4 = .ok (.ifCond .le 92, 3) := by decide +kernel
theorem dX8_takesBack_7 : decode cX8_takesBack 7 = .ok (.aload_n 0, 1) := by decide +kernel
theorem dX8_takesBack_8 : decode cX8_takesBack 8 = .ok (.dup, 1) := by decide +kernel
theorem dX8_takesBack_9 : decode cX8_takesBack 9 = .ok (.getfield 193, 3) := by decide +kernel
theorem dX8_takesBack_12 : decode cX8_takesBack 12 = .ok (.iconst 1, 1) := by decide +kernel
theorem dX8_takesBack_13 : decode cX8_takesBack 13 = .ok (.isub, 1) := by decide +kernel
theorem dX8_takesBack_14 : decode cX8_takesBack 14 = .ok (.putfield 193, 3) := by decide +kernel
theorem dX8_takesBack_17 : decode cX8_takesBack 17 = .ok (.iconst 5, 1) := by decide +kernel
theorem dX8_takesBack_18 : decode cX8_takesBack 18 = .ok (.aload_n 0, 1) := by decide +kernel
theorem dX8_takesBack_19 : decode cX8_takesBack 19 = .ok (.getfield 193, 3) := by decide +kernel
theorem dX8_takesBack_22 : decode cX8_takesBack 22 = .ok (.imul, 1) := by decide +kernel
theorem dX8_takesBack_23 : decode cX8_takesBack 23 = .ok (.istore_n 1, 1) := by decide +kernel
theorem dX8_takesBack_24 : decode cX8_takesBack 24 = .ok (.aload_n 0, 1) := by decide +kernel
theorem dX8_takesBack_25 : decode cX8_takesBack 25 = .ok (.getfield 16, 3) := by decide +kernel
theorem dX8_takesBack_28 : decode cX8_takesBack 28 = .ok (.aload_n 0, 1) := by decide +kernel
theorem dX8_takesBack_29 : decode cX8_takesBack 29 = .ok (.getfield 61, 3) := by decide +kernel
theorem dX8_takesBack_32 : decode cX8_takesBack 32 = .ok (.iload_n 1, 1) := by decide +kernel
theorem dX8_takesBack_33 : decode cX8_takesBack 33 = .ok (.iaload, 1) := by decide +kernel
theorem dX8_takesBack_34 : decode cX8_takesBack 34 = .ok (.aload_n 0, 1) := by decide +kernel
theorem dX8_takesBack_35 : decode cX8_takesBack 35 = .ok (.getfield 61, 3) := by decide +kernel
theorem dX8_takesBack_38 : decode cX8_takesBack 38 = .ok (.iload_n 1, 1) := by decide +kernel
theorem dX8_takesBack_39 : decode cX8_takesBack 39 = .ok (.iconst 2, 1) := by decide +kernel
theorem dX8_takesBack_40 : decode cX8_takesBack 40 = .ok (.iadd, 1) := by decide +kernel
theorem dX8_takesBack_41 : decode cX8_takesBack 41 = .ok (.iaload, 1) := by decide +kernel
theorem dX8_takesBack_42 : decode cX8_takesBack 42 = .ok (.iastore, 1) := by decide +kernel
theorem dX8_takesBack_43 : decode cX8_takesBack 43 = .ok (.aload_n 0, 1) := by decide +kernel
theorem dX8_takesBack_44 : decode cX8_takesBack 44 = .ok (.getfield 19, 3) := by decide +kernel
theorem dX8_takesBack_47 : decode cX8_takesBack 47 = .ok (.iconst 5, 1) := by decide +kernel
theorem dX8_takesBack_48 : decode cX8_takesBack 48 = .ok (.aload_n 0, 1) := by decide +kernel
theorem dX8_takesBack_49 : decode cX8_takesBack 49 = .ok (.getfield 61, 3) := by decide +kernel
theorem dX8_takesBack_52 : decode cX8_takesBack 52 = .ok (.iload_n 1, 1) := by decide +kernel
theorem dX8_takesBack_53 : decode cX8_takesBack 53 = .ok (.iconst 1, 1) := by decide +kernel
theorem dX8_takesBack_54 : decode cX8_takesBack 54 = .ok (.iadd, 1) := by decide +kernel
theorem dX8_takesBack_55 : decode cX8_takesBack 55 = .ok (.iaload, 1) := by decide +kernel
theorem dX8_takesBack_56 : decode cX8_takesBack 56 = .ok (.imul, 1) := by decide +kernel
theorem dX8_takesBack_57 : decode cX8_takesBack 57 = .ok (.iconst 1, 1) := by decide +kernel
theorem dX8_takesBack_58 : decode cX8_takesBack 58 = .ok (.iadd, 1) := by decide +kernel
theorem dX8_takesBack_59 : decode cX8_takesBack 59 = .ok (.aload_n 0, 1) := by decide +kernel
theorem dX8_takesBack_60 : decode cX8_takesBack 60 = .ok (.getfield 61, 3) := by decide +kernel
theorem dX8_takesBack_63 : decode cX8_takesBack 63 = .ok (.iload_n 1, 1) := by decide +kernel
theorem dX8_takesBack_64 : decode cX8_takesBack 64 = .ok (.iconst 3, 1) := by decide +kernel
theorem dX8_takesBack_65 : decode cX8_takesBack 65 = .ok (.iadd, 1) := by decide +kernel
theorem dX8_takesBack_66 : decode cX8_takesBack 66 = .ok (.iaload, 1) := by decide +kernel
theorem dX8_takesBack_67 : decode cX8_takesBack 67 = .ok (.iastore, 1) := by decide +kernel
theorem dX8_takesBack_68 : decode cX8_takesBack 68 = .ok (.aload_n 0, 1) := by decide +kernel
theorem dX8_takesBack_69 : decode cX8_takesBack 69 = .ok (.getfield 19, 3) := by decide +kernel
theorem dX8_takesBack_72 : decode cX8_takesBack 72 = .ok (.iconst 5, 1) := by decide +kernel
theorem dX8_takesBack_73 : decode cX8_takesBack 73 = .ok (.aload_n 0, 1) := by decide +kernel
theorem dX8_takesBack_74 : decode cX8_takesBack 74 = .ok (.getfield 61, 3) := by decide +kernel
theorem dX8_takesBack_77 : decode cX8_takesBack 77 = .ok (.iload_n 1, 1) := by decide +kernel
theorem dX8_takesBack_78 : decode cX8_takesBack 78 = .ok (.iconst 1, 1) := by decide +kernel
theorem dX8_takesBack_79 : decode cX8_takesBack 79 = .ok (.iadd, 1) := by decide +kernel
theorem dX8_takesBack_80 : decode cX8_takesBack 80 = .ok (.iaload, 1) := by decide +kernel
theorem dX8_takesBack_81 : decode cX8_takesBack 81 = .ok (.imul, 1) := by decide +kernel
theorem dX8_takesBack_82 : decode cX8_takesBack 82 = .ok (.iconst 3, 1) := by decide +kernel
theorem dX8_takesBack_83 : decode cX8_takesBack 83 = .ok (.iadd, 1) := by decide +kernel
theorem dX8_takesBack_84 : decode cX8_takesBack 84 = .ok (.aload_n 0, 1) := by decide +kernel
theorem dX8_takesBack_85 : decode cX8_takesBack 85 = .ok (.getfield 61, 3) := by decide +kernel
theorem dX8_takesBack_88 : decode cX8_takesBack 88 = .ok (.iload_n 1, 1) := by decide +kernel
theorem dX8_takesBack_89 : decode cX8_takesBack 89 = .ok (.iconst 4, 1) := by decide +kernel
theorem dX8_takesBack_90 : decode cX8_takesBack 90 = .ok (.iadd, 1) := by decide +kernel
theorem dX8_takesBack_91 : decode cX8_takesBack 91 = .ok (.iaload, 1) := by decide +kernel
theorem dX8_takesBack_92 : decode cX8_takesBack 92 = .ok (.iastore, 1) := by decide +kernel
theorem dX8_takesBack_93 : decode cX8_takesBack 93 = .ok (.goto (-93), 3) := by decide +kernel
theorem dX8_takesBack_96 : decode cX8_takesBack 96 = .ok (.return_, 1) := by decide +kernel
theorem dX8_tell_0 : decode cX8_tell 0 = .ok (.aload_n 0, 1) := by decide +kernel
theorem dX8_tell_1 : decode cX8_tell 1 = .ok (.iload_n 1, 1) := by decide +kernel
theorem dX8_tell_2 : decode cX8_tell 2 = .ok (.invokevirtual 174, 3) := by decide +kernel
theorem dX8_tell_5 : decode cX8_tell 5 = .ok (.ifCond .ne 6, 3) := by decide +kernel
theorem dX8_tell_8 : decode cX8_tell 8 = .ok (.bipush (-5), 2) := by decide +kernel
theorem dX8_tell_10 : decode cX8_tell 10 = .ok (.ireturn, 1) := by decide +kernel
theorem dX8_tell_11 : decode cX8_tell 11 = .ok (.aload_n 0, 1) := by decide +kernel
theorem dX8_tell_12 : decode cX8_tell 12 = .ok (.iload_n 2, 1) := by decide +kernel
theorem dX8_tell_13 : decode cX8_tell 13 = .ok (.invokevirtual 167, 3) := by decide +kernel
theorem dX8_tell_16 : decode cX8_tell 16 = .ok (.ifCond .ne 6, 3) := by decide +kernel
theorem dX8_tell_19 : decode cX8_tell 19 = .ok (.bipush (-6), 2) := by decide +kernel
theorem dX8_tell_21 : decode cX8_tell 21 = .ok (.ireturn, 1) := by decide +kernel
theorem dX8_tell_22 : decode cX8_tell 22 = .ok (.aload_n 0, 1) := by decide +kernel
theorem dX8_tell_23 : decode cX8_tell 23 = .ok (.iload_n 1, 1) := by decide +kernel
theorem dX8_tell_24 : decode cX8_tell 24 = .ok (.iload_n 2, 1) := by decide +kernel
theorem dX8_tell_25 : decode cX8_tell 25 = .ok (.invokevirtual 199, 3) := by decide +kernel
theorem dX8_tell_28 : decode cX8_tell 28 = .ok (.istore_n 3, 1) := by decide +kernel
theorem dX8_tell_29 : decode cX8_tell 29 = .ok (.aload_n 0, 1) := by decide +kernel
theorem dX8_tell_30 : decode cX8_tell 30 = .ok (.iconst 0, 1) := by decide +kernel
theorem dX8_tell_31 : decode cX8_tell 31 = .ok (.putfield 193, 3) := by decide +kernel
theorem dX8_tell_34 : decode cX8_tell 34 = .ok (.iload_n 3, 1) := by decide +kernel
theorem dX8_tell_35 : decode cX8_tell 35 = .ok (.ireturn, 1) := by decide +kernel
theorem dX8_pay_0 : decode cX8_pay 0 = .ok (.aload_n 0, 1) := by decide +kernel
theorem dX8_pay_1 : decode cX8_pay 1 = .ok (.iload_n 1, 1) := by decide +kernel
theorem dX8_pay_2 : decode cX8_pay 2 = .ok (.invokevirtual 167, 3) := by decide +kernel
theorem dX8_pay_5 : decode cX8_pay 5 = .ok (.ifCond .eq 16, 3) := by decide +kernel
theorem dX8_pay_8 : decode cX8_pay 8 = .ok (.aload_n 0, 1) := by decide +kernel
theorem dX8_pay_9 : decode cX8_pay 9 = .ok (.iload_n 2, 1) := by decide +kernel
theorem dX8_pay_10 : decode cX8_pay 10 = .ok (.invokevirtual 167, 3) := by decide +kernel
theorem dX8_pay_13 : decode cX8_pay 13 = .ok (.ifCond .eq 8, 3) := by decide +kernel
theorem dX8_pay_16 : decode cX8_pay 16 = .ok (.iload_n 1, 1) := by decide +kernel
theorem dX8_pay_17 : decode cX8_pay 17 = .ok (.iload_n 2, 1) := by decide +kernel
theorem dX8_pay_18 : decode cX8_pay 18 = .ok (.if_icmp .ne 6, 3) := by decide +kernel
theorem dX8_pay_21 : decode cX8_pay 21 = .ok (.bipush (-5), 2) := by decide +kernel
theorem dX8_pay_23 : decode cX8_pay 23 = .ok (.ireturn, 1) := by decide +kernel
theorem dX8_pay_24 : decode cX8_pay 24 = .ok (.iload_n 3, 1) := by decide +kernel
theorem dX8_pay_25 : decode cX8_pay 25 = .ok (.iconst 0, 1) := by decide +kernel
theorem dX8_pay_26 : decode cX8_pay 26 = .ok (.sipush 9999, 3) := by decide +kernel
theorem dX8_pay_29 : decode cX8_pay 29 = .ok (.invokestatic 78, 3) := by decide +kernel
theorem dX8_pay_32 : decode cX8_pay 32 = .ok (.ifCond .ne 6, 3) := by decide +kernel
theorem dX8_pay_35 : decode cX8_pay 35 = .ok (.bipush (-7), 2) := by decide +kernel
theorem dX8_pay_37 : decode cX8_pay 37 = .ok (.ireturn, 1) := by decide +kernel
theorem dX8_pay_38 : decode cX8_pay 38 = .ok (.aload_n 0, 1) := by decide +kernel
theorem dX8_pay_39 : decode cX8_pay 39 = .ok (.getfield 19, 3) := by decide +kernel
theorem dX8_pay_42 : decode cX8_pay 42 = .ok (.iconst 5, 1) := by decide +kernel
theorem dX8_pay_43 : decode cX8_pay 43 = .ok (.iload_n 1, 1) := by decide +kernel
theorem dX8_pay_44 : decode cX8_pay 44 = .ok (.imul, 1) := by decide +kernel
theorem dX8_pay_45 : decode cX8_pay 45 = .ok (.iconst 1, 1) := by decide +kernel
theorem dX8_pay_46 : decode cX8_pay 46 = .ok (.iadd, 1) := by decide +kernel
theorem dX8_pay_47 : decode cX8_pay 47 = .ok (.iaload, 1) := by decide +kernel
theorem dX8_pay_48 : decode cX8_pay 48 = .ok (.iload_n 3, 1) := by decide +kernel
theorem dX8_pay_49 : decode cX8_pay 49 = .ok (.if_icmp .ge 6, 3) := by decide +kernel
theorem dX8_pay_52 : decode cX8_pay 52 = .ok (.bipush (-3), 2) := by decide +kernel
theorem dX8_pay_54 : decode cX8_pay 54 = .ok (.ireturn, 1) := by decide +kernel
theorem dX8_pay_55 : decode cX8_pay 55 = .ok (.aload_n 0, 1) := by decide +kernel
theorem dX8_pay_56 : decode cX8_pay 56 = .ok (.getfield 19, 3) := by decide +kernel
theorem dX8_pay_59 : decode cX8_pay 59 = .ok (.iconst 5, 1) := by decide +kernel
theorem dX8_pay_60 : decode cX8_pay 60 = .ok (.iload_n 2, 1) := by decide +kernel
theorem dX8_pay_61 : decode cX8_pay 61 = .ok (.imul, 1) := by decide +kernel
theorem dX8_pay_62 : decode cX8_pay 62 = .ok (.iconst 1, 1) := by decide +kernel
theorem dX8_pay_63 : decode cX8_pay 63 = .ok (.iadd, 1) := by decide +kernel
theorem dX8_pay_64 : decode cX8_pay 64 = .ok (.iaload, 1) := by decide +kernel
theorem dX8_pay_65 : decode cX8_pay 65 = .ok (.iload_n 3, 1) := by decide +kernel
theorem dX8_pay_66 : decode cX8_pay 66 = .ok (.iadd, 1) := by decide +kernel
theorem dX8_pay_67 : decode cX8_pay 67 = .ok (.sipush 9999, 3) := by decide +kernel
theorem dX8_pay_70 : decode cX8_pay 70 = .ok (.if_icmp .le 6, 3) := by decide +kernel
theorem dX8_pay_73 : decode cX8_pay 73 = .ok (.bipush (-4), 2) := by decide +kernel
theorem dX8_pay_75 : decode cX8_pay 75 = .ok (.ireturn, 1) := by decide +kernel
theorem dX8_pay_76 : decode cX8_pay 76 = .ok (.aload_n 0, 1) := by decide +kernel
theorem dX8_pay_77 : decode cX8_pay 77 = .ok (.getfield 19, 3) := by decide +kernel
theorem dX8_pay_80 : decode cX8_pay 80 = .ok (.iconst 5, 1) := by decide +kernel
theorem dX8_pay_81 : decode cX8_pay 81 = .ok (.iload_n 1, 1) := by decide +kernel
theorem dX8_pay_82 : decode cX8_pay 82 = .ok (.imul, 1) := by decide +kernel
theorem dX8_pay_83 : decode cX8_pay 83 = .ok (.iconst 1, 1) := by decide +kernel
theorem dX8_pay_84 : decode cX8_pay 84 = .ok (.iadd, 1) := by decide +kernel
theorem dX8_pay_85 : decode cX8_pay 85 = .ok (.dup2, 1) := by decide +kernel
theorem dX8_pay_86 : decode cX8_pay 86 = .ok (.iaload, 1) := by decide +kernel
theorem dX8_pay_87 : decode cX8_pay 87 = .ok (.iload_n 3, 1) := by decide +kernel
theorem dX8_pay_88 : decode cX8_pay 88 = .ok (.isub, 1) := by decide +kernel
theorem dX8_pay_89 : decode cX8_pay 89 = .ok (.iastore, 1) := by decide +kernel
theorem dX8_pay_90 : decode cX8_pay 90 = .ok (.aload_n 0, 1) := by decide +kernel
theorem dX8_pay_91 : decode cX8_pay 91 = .ok (.getfield 19, 3) := by decide +kernel
theorem dX8_pay_94 : decode cX8_pay 94 = .ok (.iconst 5, 1) := by decide +kernel
theorem dX8_pay_95 : decode cX8_pay 95 = .ok (.iload_n 2, 1) := by decide +kernel
theorem dX8_pay_96 : decode cX8_pay 96 = .ok (.imul, 1) := by decide +kernel
theorem dX8_pay_97 : decode cX8_pay 97 = .ok (.iconst 1, 1) := by decide +kernel
theorem dX8_pay_98 : decode cX8_pay 98 = .ok (.iadd, 1) := by decide +kernel
theorem dX8_pay_99 : decode cX8_pay 99 = .ok (.dup2, 1) := by decide +kernel
theorem dX8_pay_100 : decode cX8_pay 100 = .ok (.iaload, 1) := by decide +kernel
theorem dX8_pay_101 : decode cX8_pay 101 = .ok (.iload_n 3, 1) := by decide +kernel
theorem dX8_pay_102 : decode cX8_pay 102 = .ok (.iadd, 1) := by decide +kernel
theorem dX8_pay_103 : decode cX8_pay 103 = .ok (.iastore, 1) := by decide +kernel
theorem dX8_pay_104 : decode cX8_pay 104 = .ok (.aload_n 0, 1) := by decide +kernel
theorem dX8_pay_105 : decode cX8_pay 105 = .ok (.getfield 19, 3) := by decide +kernel
theorem dX8_pay_108 : decode cX8_pay 108 = .ok (.iconst 5, 1) := by decide +kernel
theorem dX8_pay_109 : decode cX8_pay 109 = .ok (.iload_n 1, 1) := by decide +kernel
theorem dX8_pay_110 : decode cX8_pay 110 = .ok (.imul, 1) := by decide +kernel
theorem dX8_pay_111 : decode cX8_pay 111 = .ok (.iconst 1, 1) := by decide +kernel
theorem dX8_pay_112 : decode cX8_pay 112 = .ok (.iadd, 1) := by decide +kernel
theorem dX8_pay_113 : decode cX8_pay 113 = .ok (.iaload, 1) := by decide +kernel
theorem dX8_pay_114 : decode cX8_pay 114 = .ok (.ireturn, 1) := by decide +kernel
theorem dX8_fadesOf_0 : decode cX8_fadesOf 0 = .ok (.aload_n 0, 1) := by decide +kernel
theorem dX8_fadesOf_1 : decode cX8_fadesOf 1 = .ok (.getfield 19, 3) := by decide +kernel
theorem dX8_fadesOf_4 : decode cX8_fadesOf 4 = .ok (.iconst 5, 1) := by decide +kernel
theorem dX8_fadesOf_5 : decode cX8_fadesOf 5 = .ok (.iload_n 1, 1) := by decide +kernel
theorem dX8_fadesOf_6 : decode cX8_fadesOf 6 = .ok (.imul, 1) := by decide +kernel
theorem dX8_fadesOf_7 : decode cX8_fadesOf 7 = .ok (.iconst 1, 1) := by decide +kernel
theorem dX8_fadesOf_8 : decode cX8_fadesOf 8 = .ok (.iadd, 1) := by decide +kernel
theorem dX8_fadesOf_9 : decode cX8_fadesOf 9 = .ok (.iaload, 1) := by decide +kernel
theorem dX8_fadesOf_10 : decode cX8_fadesOf 10 = .ok (.aload_n 0, 1) := by decide +kernel
theorem dX8_fadesOf_11 : decode cX8_fadesOf 11 = .ok (.iconst 1, 1) := by decide +kernel
theorem dX8_fadesOf_12 : decode cX8_fadesOf 12 = .ok (.iconst 0, 1) := by decide +kernel
theorem dX8_fadesOf_13 : decode cX8_fadesOf 13 = .ok (.iload_n 1, 1) := by decide +kernel
theorem dX8_fadesOf_14 : decode cX8_fadesOf 14 = .ok (.iconst 0, 1) := by decide +kernel
theorem dX8_fadesOf_15 : decode cX8_fadesOf 15 = .ok (.invokevirtual 170, 3) := by decide +kernel
theorem dX8_fadesOf_18 : decode cX8_fadesOf 18 = .ok (.imul, 1) := by decide +kernel
theorem dX8_fadesOf_19 : decode cX8_fadesOf 19 = .ok (.bipush 100, 2) := by decide +kernel
theorem dX8_fadesOf_21 : decode cX8_fadesOf 21 = .ok (.idiv, 1) := by decide +kernel
theorem dX8_fadesOf_22 : decode cX8_fadesOf 22 = .ok (.ireturn, 1) := by decide +kernel
theorem dX8_fades_0 : decode cX8_fades 0 = .ok (.aload_n 0, 1) := by decide +kernel
theorem dX8_fades_1 : decode cX8_fades 1 = .ok (.iload_n 1, 1) := by decide +kernel
theorem dX8_fades_2 : decode cX8_fades 2 = .ok (.invokevirtual 167, 3) := by decide +kernel
theorem dX8_fades_5 : decode cX8_fades 5 = .ok (.ifCond .eq 11, 3) := by decide +kernel
theorem dX8_fades_8 : decode cX8_fades 8 = .ok (.aload_n 0, 1) := by decide +kernel
theorem dX8_fades_9 : decode cX8_fades 9 = .ok (.iload_n 1, 1) := by decide +kernel
theorem dX8_fades_10 : decode cX8_fades 10 = .ok (.invokevirtual 202, 3) := by decide +kernel
theorem dX8_fades_13 : decode cX8_fades 13 = .ok (.goto 5, 3) := by decide +kernel
theorem dX8_fades_16 : decode cX8_fades 16 = .ok (.bipush (-5), 2) := by decide +kernel
theorem dX8_fades_18 : decode cX8_fades 18 = .ok (.ireturn, 1) := by decide +kernel
theorem dX8_night_0 : decode cX8_night 0 = .ok (.aload_n 0, 1) := by decide +kernel
theorem dX8_night_1 : decode cX8_night 1 = .ok (.getfield 88, 3) := by decide +kernel
theorem dX8_night_4 : decode cX8_night 4 = .ok (.bipush 99, 2) := by decide +kernel
theorem dX8_night_6 : decode cX8_night 6 = .ok (.if_icmp .ne 6, 3) := by decide +kernel
theorem dX8_night_9 : decode cX8_night 9 = .ok (.bipush (-4), 2) := by decide +kernel
theorem dX8_night_11 : decode cX8_night 11 = .ok (.ireturn, 1) := by decide +kernel
theorem dX8_night_12 : decode cX8_night 12 = .ok (.iconst 0, 1) := by decide +kernel
theorem dX8_night_13 : decode cX8_night 13 = .ok (.istore_n 1, 1) := by decide +kernel
theorem dX8_night_14 : decode cX8_night 14 = .ok (.iconst 0, 1) := by decide +kernel
theorem dX8_night_15 : decode cX8_night 15 = .ok (.istore_n 2, 1) := by decide +kernel
theorem dX8_night_16 : decode cX8_night 16 = .ok (.iload_n 2, 1) := by decide +kernel
theorem dX8_night_17 : decode cX8_night 17 = .ok (.aload_n 0, 1) := by decide +kernel
theorem dX8_night_18 : decode cX8_night 18 = .ok (.getfield 82, 3) := by decide +kernel
theorem dX8_night_21 : decode cX8_night 21 = .ok (.if_icmp .ge 33, 3) := by decide +kernel
theorem dX8_night_24 : decode cX8_night 24 = .ok (.aload_n 0, 1) := by decide +kernel
theorem dX8_night_25 : decode cX8_night 25 = .ok (.iload_n 2, 1) := by decide +kernel
theorem dX8_night_26 : decode cX8_night 26 = .ok (.invokevirtual 202, 3) := by decide +kernel
theorem dX8_night_29 : decode cX8_night 29 = .ok (.istore_n 3, 1) := by decide +kernel
theorem dX8_night_30 : decode cX8_night 30 = .ok (.aload_n 0, 1) := by decide +kernel
theorem dX8_night_31 : decode cX8_night 31 = .ok (.getfield 19, 3) := by decide +kernel
theorem dX8_night_34 : decode cX8_night 34 = .ok (.iconst 5, 1) := by decide +kernel
theorem dX8_night_35 : decode cX8_night 35 = .ok (.iload_n 2, 1) := by decide +kernel
theorem dX8_night_36 : decode cX8_night 36 = .ok (.imul, 1) := by decide +kernel
theorem dX8_night_37 : decode cX8_night 37 = .ok (.iconst 1, 1) := by decide +kernel
theorem dX8_night_38 : decode cX8_night 38 = .ok (.iadd, 1) := by decide +kernel
theorem dX8_night_39 : decode cX8_night 39 = .ok (.dup2, 1) := by decide +kernel
theorem dX8_night_40 : decode cX8_night 40 = .ok (.iaload, 1) := by decide +kernel
theorem dX8_night_41 : decode cX8_night 41 = .ok (.iload_n 3, 1) := by decide +kernel
theorem dX8_night_42 : decode cX8_night 42 = .ok (.isub, 1) := by decide +kernel
theorem dX8_night_43 : decode cX8_night 43 = .ok (.iastore, 1) := by decide +kernel
theorem dX8_night_44 : decode cX8_night 44 = .ok (.iload_n 1, 1) := by decide +kernel
theorem dX8_night_45 : decode cX8_night 45 = .ok (.iload_n 3, 1) := by decide +kernel
theorem dX8_night_46 : decode cX8_night 46 = .ok (.iadd, 1) := by decide +kernel
theorem dX8_night_47 : decode cX8_night 47 = .ok (.istore_n 1, 1) := by decide +kernel
theorem dX8_night_48 : decode cX8_night 48 = .ok (.iinc 2 1, 3) := by decide +kernel
theorem dX8_night_51 : decode cX8_night 51 = .ok (.goto (-35), 3) := by decide +kernel
theorem dX8_night_54 : decode cX8_night 54 = .ok (.aload_n 0, 1) := by decide +kernel
theorem dX8_night_55 : decode cX8_night 55 = .ok (.dup, 1) := by decide +kernel
theorem dX8_night_56 : decode cX8_night 56 = .ok (.getfield 88, 3) := by decide +kernel
theorem dX8_night_59 : decode cX8_night 59 = .ok (.iconst 1, 1) := by decide +kernel
theorem dX8_night_60 : decode cX8_night 60 = .ok (.iadd, 1) := by decide +kernel
theorem dX8_night_61 : decode cX8_night 61 = .ok (.putfield 88, 3) := by decide +kernel
theorem dX8_night_64 : decode cX8_night 64 = .ok (.iload_n 1, 1) := by decide +kernel
theorem dX8_night_65 : decode cX8_night 65 = .ok (.ireturn, 1) := by decide +kernel
theorem dX8_allMany_0 : decode cX8_allMany 0 = .ok (.aload_n 0, 1) := by decide +kernel
theorem dX8_allMany_1 : decode cX8_allMany 1 = .ok (.getfield 75, 3) := by decide +kernel
theorem dX8_allMany_4 : decode cX8_allMany 4 = .ok (.aload_n 0, 1) := by decide +kernel
theorem dX8_allMany_5 : decode cX8_allMany 5 = .ok (.getfield 82, 3) := by decide +kernel
theorem dX8_allMany_8 : decode cX8_allMany 8 = .ok (.imul, 1) := by decide +kernel
theorem dX8_allMany_9 : decode cX8_allMany 9 = .ok (.ireturn, 1) := by decide +kernel
theorem dX8_byNumber_0 : decode cX8_byNumber 0 = .ok (.aload_n 0, 1) := by decide +kernel
theorem dX8_byNumber_1 : decode cX8_byNumber 1 = .ok (.getfield 82, 3) := by decide +kernel
theorem dX8_byNumber_4 : decode cX8_byNumber 4 = .ok (.iconst 1, 1) := by decide +kernel
theorem dX8_byNumber_5 : decode cX8_byNumber 5 = .ok (.bipush 6, 2) := by decide +kernel
theorem dX8_byNumber_7 : decode cX8_byNumber 7 = .ok (.invokestatic 164, 3) := by decide +kernel
theorem dX8_byNumber_10 : decode cX8_byNumber 10 = .ok (.istore_n 2, 1) := by decide +kernel
theorem dX8_byNumber_11 : decode cX8_byNumber 11 = .ok (.aload_n 0, 1) := by decide +kernel
theorem dX8_byNumber_12 : decode cX8_byNumber 12 = .ok (.iload_n 1, 1) := by decide +kernel
theorem dX8_byNumber_13 : decode cX8_byNumber 13 = .ok (.iload_n 2, 1) := by decide +kernel
theorem dX8_byNumber_14 : decode cX8_byNumber 14 = .ok (.idiv, 1) := by decide +kernel
theorem dX8_byNumber_15 : decode cX8_byNumber 15 = .ok (.iload_n 1, 1) := by decide +kernel
theorem dX8_byNumber_16 : decode cX8_byNumber 16 = .ok (.iload_n 2, 1) := by decide +kernel
theorem dX8_byNumber_17 : decode cX8_byNumber 17 = .ok (.irem, 1) := by decide +kernel
theorem dX8_byNumber_18 : decode cX8_byNumber 18 = .ok (.invokevirtual 199, 3) := by decide +kernel
theorem dX8_byNumber_21 : decode cX8_byNumber 21 = .ok (.ireturn, 1) := by decide +kernel
theorem dX8_powerOf_0 : decode cX8_powerOf 0 = .ok (.iconst 1, 1) := by decide +kernel
theorem dX8_powerOf_1 : decode cX8_powerOf 1 = .ok (.istore_n 2, 1) := by decide +kernel
theorem dX8_powerOf_2 : decode cX8_powerOf 2 = .ok (.iconst 0, 1) := by decide +kernel
theorem dX8_powerOf_3 : decode cX8_powerOf 3 = .ok (.istore_n 3, 1) := by decide +kernel
theorem dX8_powerOf_4 : decode cX8_powerOf 4 = .ok (.iload_n 3, 1) := by decide +kernel
theorem dX8_powerOf_5 : decode cX8_powerOf 5 = .ok (.iload_n 1, 1) := by decide +kernel
theorem dX8_powerOf_6 : decode cX8_powerOf 6 = .ok (.if_icmp .ge 16, 3) := by decide +kernel
theorem dX8_powerOf_9 : decode cX8_powerOf 9 = .ok (.iload_n 2, 1) := by decide +kernel
theorem dX8_powerOf_10 : decode cX8_powerOf 10 = .ok (.aload_n 0, 1) := by decide +kernel
theorem dX8_powerOf_11 : decode cX8_powerOf 11 = .ok (.invokevirtual 205, 3) := by decide +kernel
theorem dX8_powerOf_14 : decode cX8_powerOf 14 = .ok (.imul, 1) := by decide +kernel
theorem dX8_powerOf_15 : decode cX8_powerOf 15 = .ok (.istore_n 2, 1) := by decide +kernel
theorem dX8_powerOf_16 : decode cX8_powerOf 16 = .ok (.iinc 3 1, 3) := by decide +kernel
theorem dX8_powerOf_19 : decode cX8_powerOf 19 = .ok (.goto (-15), 3) := by decide +kernel
theorem dX8_powerOf_22 : decode cX8_powerOf 22 = .ok (.iload_n 2, 1) := by decide +kernel
theorem dX8_powerOf_23 : decode cX8_powerOf 23 = .ok (.ireturn, 1) := by decide +kernel
theorem dX8_rowOf_0 : decode cX8_rowOf 0 = .ok (.iconst 0, 1) := by decide +kernel
theorem dX8_rowOf_1 : decode cX8_rowOf 1 = .ok (.istore_n 3, 1) := by decide +kernel
theorem dX8_rowOf_2 : decode cX8_rowOf 2 = .ok (.aload_n 0, 1) := by decide +kernel
theorem dX8_rowOf_3 : decode cX8_rowOf 3 = .ok (.iload_n 2, 1) := by decide +kernel
theorem dX8_rowOf_4 : decode cX8_rowOf 4 = .ok (.iconst 1, 1) := by decide +kernel
theorem dX8_rowOf_5 : decode cX8_rowOf 5 = .ok (.isub, 1) := by decide +kernel
theorem dX8_rowOf_6 : decode cX8_rowOf 6 = .ok (.invokevirtual 208, 3) := by decide +kernel
theorem dX8_rowOf_9 : decode cX8_rowOf 9 = .ok (.istore 4, 2) := by decide +kernel
theorem dX8_rowOf_11 : decode cX8_rowOf 11 = .ok (.iload_n 1, 1) := by decide +kernel
theorem dX8_rowOf_12 : decode cX8_rowOf 12 = .ok (.istore 5, 2) := by decide +kernel
theorem dX8_rowOf_14 : decode cX8_rowOf 14 = .ok (.iconst 0, 1) := by decide +kernel
theorem dX8_rowOf_15 : decode cX8_rowOf 15 = .ok (.istore 6, 2) := by decide +kernel
theorem dX8_rowOf_17 : decode cX8_rowOf 17 = .ok (.iload 6, 2) := by decide +kernel
theorem dX8_rowOf_19 : decode cX8_rowOf 19 = .ok (.iload_n 2, 1) := by decide +kernel
theorem dX8_rowOf_20 : decode cX8_rowOf 20 = .ok (.if_icmp .ge 51, 3) := by decide +kernel
theorem dX8_rowOf_23 : decode cX8_rowOf 23 = .ok (.iload_n 3, 1) := by decide +kernel
theorem dX8_rowOf_24 : decode cX8_rowOf 24 = .ok (.aload_n 0, 1) := by decide +kernel
theorem dX8_rowOf_25 : decode cX8_rowOf 25 = .ok (.iload 5, 2) := by decide +kernel
theorem dX8_rowOf_27 : decode cX8_rowOf 27 = .ok (.iload 4, 2) := by decide +kernel
theorem dX8_rowOf_29 : decode cX8_rowOf 29 = .ok (.iconst 1, 1) := by decide +kernel
theorem dX8_rowOf_30 : decode cX8_rowOf 30 = .ok (.sipush 900, 3) := by decide +kernel
theorem dX8_rowOf_33 : decode cX8_rowOf 33 = .ok (.invokestatic 164, 3) := by decide +kernel
theorem dX8_rowOf_36 : decode cX8_rowOf 36 = .ok (.idiv, 1) := by decide +kernel
theorem dX8_rowOf_37 : decode cX8_rowOf 37 = .ok (.invokevirtual 211, 3) := by decide +kernel
theorem dX8_rowOf_40 : decode cX8_rowOf 40 = .ok (.iadd, 1) := by decide +kernel
theorem dX8_rowOf_41 : decode cX8_rowOf 41 = .ok (.istore_n 3, 1) := by decide +kernel
theorem dX8_rowOf_42 : decode cX8_rowOf 42 = .ok (.iload 5, 2) := by decide +kernel
theorem dX8_rowOf_44 : decode cX8_rowOf 44 = .ok (.iload 4, 2) := by decide +kernel
theorem dX8_rowOf_46 : decode cX8_rowOf 46 = .ok (.iconst 1, 1) := by decide +kernel
theorem dX8_rowOf_47 : decode cX8_rowOf 47 = .ok (.sipush 900, 3) := by decide +kernel
theorem dX8_rowOf_50 : decode cX8_rowOf 50 = .ok (.invokestatic 164, 3) := by decide +kernel
theorem dX8_rowOf_53 : decode cX8_rowOf 53 = .ok (.irem, 1) := by decide +kernel
theorem dX8_rowOf_54 : decode cX8_rowOf 54 = .ok (.istore 5, 2) := by decide +kernel
theorem dX8_rowOf_56 : decode cX8_rowOf 56 = .ok (.iload 4, 2) := by decide +kernel
theorem dX8_rowOf_58 : decode cX8_rowOf 58 = .ok (.aload_n 0, 1) := by decide +kernel
theorem dX8_rowOf_59 : decode cX8_rowOf 59 = .ok (.invokevirtual 205, 3) := by decide +kernel
theorem dX8_rowOf_62 : decode cX8_rowOf 62 = .ok (.idiv, 1) := by decide +kernel
theorem dX8_rowOf_63 : decode cX8_rowOf 63 = .ok (.istore 4, 2) := by decide +kernel
theorem dX8_rowOf_65 : decode cX8_rowOf 65 = .ok (.iinc 6 1, 3) := by decide +kernel
theorem dX8_rowOf_68 : decode cX8_rowOf 68 = .ok (.goto (-51), 3) := by decide +kernel
theorem dX8_rowOf_71 : decode cX8_rowOf 71 = .ok (.aload_n 0, 1) := by decide +kernel
theorem dX8_rowOf_72 : decode cX8_rowOf 72 = .ok (.invokevirtual 214, 3) := by decide +kernel
theorem dX8_rowOf_75 : decode cX8_rowOf 75 = .ok (.iload_n 3, 1) := by decide +kernel
theorem dX8_rowOf_76 : decode cX8_rowOf 76 = .ok (.ireturn, 1) := by decide +kernel
theorem dX8_friday_0 : decode cX8_friday 0 = .ok (.iload_n 1, 1) := by decide +kernel
theorem dX8_friday_1 : decode cX8_friday 1 = .ok (.iconst 1, 1) := by decide +kernel
theorem dX8_friday_2 : decode cX8_friday 2 = .ok (.iconst 3, 1) := by decide +kernel
theorem dX8_friday_3 : decode cX8_friday 3 = .ok (.invokestatic 78, 3) := by decide +kernel
theorem dX8_friday_6 : decode cX8_friday 6 = .ok (.ifCond .eq 14, 3) := by decide +kernel
theorem dX8_friday_9 : decode cX8_friday 9 = .ok (.iload_n 2, 1) := by decide +kernel
theorem dX8_friday_10 : decode cX8_friday 10 = .ok (.iconst (-1), 1) := by decide +kernel
theorem dX8_friday_11 : decode cX8_friday 11 = .ok (.iload_n 1, 1) := by decide +kernel
theorem dX8_friday_12 : decode cX8_friday 12 = .ok (.iconst 1, 1) := by decide +kernel
theorem dX8_friday_13 : decode cX8_friday 13 = .ok (.isub, 1) := by decide +kernel
theorem dX8_friday_14 : decode cX8_friday 14 = .ok (.invokestatic 78, 3) := by decide +kernel
theorem dX8_friday_17 : decode cX8_friday 17 = .ok (.ifCond .ne 6, 3) := by decide +kernel
theorem dX8_friday_20 : decode cX8_friday 20 = .ok (.bipush (-2), 2) := by decide +kernel
theorem dX8_friday_22 : decode cX8_friday 22 = .ok (.ireturn, 1) := by decide +kernel
theorem dX8_friday_23 : decode cX8_friday 23 = .ok (.aload_n 0, 1) := by decide +kernel
theorem dX8_friday_24 : decode cX8_friday 24 = .ok (.invokevirtual 205, 3) := by decide +kernel
theorem dX8_friday_27 : decode cX8_friday 27 = .ok (.ifCond .ne 14, 3) := by decide +kernel
theorem dX8_friday_30 : decode cX8_friday 30 = .ok (.iload_n 2, 1) := by decide +kernel
theorem dX8_friday_31 : decode cX8_friday 31 = .ok (.iconst (-1), 1) := by decide +kernel
theorem dX8_friday_32 : decode cX8_friday 32 = .ok (.if_icmp .ne 7, 3) := by decide +kernel
theorem dX8_friday_35 : decode cX8_friday 35 = .ok (.iconst 0, 1) := by decide +kernel
theorem dX8_friday_36 : decode cX8_friday 36 = .ok (.goto 4, 3) := by decide +kernel
theorem dX8_friday_39 : decode cX8_friday 39 = .ok (.iconst (-1), 1) := by decide +kernel
theorem dX8_friday_40 : decode cX8_friday 40 = .ok (.ireturn, 1) := by decide +kernel
theorem dX8_friday_41 : decode cX8_friday 41 = .ok (.iconst 0, 1) := by decide +kernel
theorem dX8_friday_42 : decode cX8_friday 42 = .ok (.istore_n 3, 1) := by decide +kernel
theorem dX8_friday_43 : decode cX8_friday 43 = .ok (.iconst (-1), 1) := by decide +kernel
theorem dX8_friday_44 : decode cX8_friday 44 = .ok (.istore 4, 2) := by decide +kernel
theorem dX8_friday_46 : decode cX8_friday 46 = .ok (.iconst 0, 1) := by decide +kernel
theorem dX8_friday_47 : decode cX8_friday 47 = .ok (.istore 5, 2) := by decide +kernel
theorem dX8_friday_49 : decode cX8_friday 49 = .ok (.iload 5, 2) := by decide +kernel
theorem dX8_friday_51 : decode cX8_friday 51 = .ok (.aload_n 0, 1) := by decide +kernel
theorem dX8_friday_52 : decode cX8_friday 52 = .ok (.iload_n 1, 1) := by decide +kernel
theorem dX8_friday_53 : decode cX8_friday 53 = .ok (.invokevirtual 208, 3) := by decide +kernel
theorem dX8_friday_56 : decode cX8_friday 56 = .ok (.if_icmp .ge 48, 3) := by decide +kernel
theorem dX8_friday_59 : decode cX8_friday 59 = .ok (.aload_n 0, 1) := by decide +kernel
theorem dX8_friday_60 : decode cX8_friday 60 = .ok (.iload 5, 2) := by decide +kernel
theorem dX8_friday_62 : decode cX8_friday 62 = .ok (.iload_n 1, 1) := by decide +kernel
theorem dX8_friday_63 : decode cX8_friday 63 = .ok (.invokevirtual 217, 3) := by decide +kernel
theorem dX8_friday_66 : decode cX8_friday 66 = .ok (.istore 6, 2) := by decide +kernel
theorem dX8_friday_68 : decode cX8_friday 68 = .ok (.iload 6, 2) := by decide +kernel
theorem dX8_friday_70 : decode cX8_friday 70 = .ok (.iload 4, 2) := by decide +kernel
theorem dX8_friday_72 : decode cX8_friday 72 = .ok (.if_icmp .le 8, 3) := by decide +kernel
theorem dX8_friday_75 : decode cX8_friday 75 = .ok (.iload 5, 2) := by decide +kernel
theorem dX8_friday_77 : decode cX8_friday 77 = .ok (.goto 4, 3) := by decide +kernel
theorem dX8_friday_80 : decode cX8_friday 80 = .ok (.iload_n 3, 1) := by decide +kernel
theorem dX8_friday_81 : decode cX8_friday 81 = .ok (.istore_n 3, 1) := by decide +kernel
theorem dX8_friday_82 : decode cX8_friday 82 = .ok (.iload 6, 2) := by decide +kernel
theorem dX8_friday_84 : decode cX8_friday 84 = .ok (.iload 4, 2) := by decide +kernel
theorem dX8_friday_86 : decode cX8_friday 86 = .ok (.if_icmp .le 8, 3) := by decide +kernel
theorem dX8_friday_89 : decode cX8_friday 89 = .ok (.iload 6, 2) := by decide +kernel
theorem dX8_friday_91 : decode cX8_friday 91 = .ok (.goto 5, 3) := by decide +kernel
theorem dX8_friday_94 : decode cX8_friday 94 = .ok (.iload 4, 2) := by decide +kernel
theorem dX8_friday_96 : decode cX8_friday 96 = .ok (.istore 4, 2) := by decide +kernel
theorem dX8_friday_98 : decode cX8_friday 98 = .ok (.iinc 5 1, 3) := by decide +kernel
theorem dX8_friday_101 : decode cX8_friday 101 = .ok (.goto (-52), 3) := by decide +kernel
theorem dX8_friday_104 : decode cX8_friday 104 = .ok (.iload_n 1, 1) := by decide +kernel
theorem dX8_friday_105 : decode cX8_friday 105 = .ok (.iconst 1, 1) := by decide +kernel
theorem dX8_friday_106 : decode cX8_friday 106 = .ok (.isub, 1) := by decide +kernel
theorem dX8_friday_107 : decode cX8_friday 107 = .ok (.istore 5, 2) := by decide +kernel
theorem dX8_friday_109 : decode cX8_friday 109 = .ok (.iload 5, 2) := by decide +kernel
theorem dX8_friday_111 : decode cX8_friday 111 = .ok (.ifCond .lt 49, 3) := by decide +kernel
theorem dX8_friday_114 : decode cX8_friday 114 = .ok (.iload_n 3, 1) := by decide +kernel
theorem dX8_friday_115 : decode cX8_friday 115 = .ok (.aload_n 0, 1) := by decide +kernel
theorem dX8_friday_116 : decode cX8_friday 116 = .ok (.invokevirtual 205, 3) := by decide +kernel
theorem dX8_friday_119 : decode cX8_friday 119 = .ok (.irem, 1) := by decide +kernel
theorem dX8_friday_120 : decode cX8_friday 120 = .ok (.istore 6, 2) := by decide +kernel
theorem dX8_friday_122 : decode cX8_friday 122 = .ok (.aload_n 0, 1) := by decide +kernel
theorem dX8_friday_123 : decode cX8_friday 123 = .ok (.getfield 64, 3) := by decide +kernel
theorem dX8_friday_126 : decode cX8_friday 126 = .ok (.iload 5, 2) := by decide +kernel
theorem dX8_friday_128 : decode cX8_friday 128 = .ok (.bipush 10, 2) := by decide +kernel
theorem dX8_friday_130 : decode cX8_friday 130 = .ok (.iload 6, 2) := by decide +kernel
theorem dX8_friday_132 : decode cX8_friday 132 = .ok (.aload_n 0, 1) := by decide +kernel
theorem dX8_friday_133 : decode cX8_friday 133 = .ok (.getfield 82, 3) := by decide +kernel
theorem dX8_friday_136 : decode cX8_friday 136 = .ok (.idiv, 1) := by decide +kernel
theorem dX8_friday_137 : decode cX8_friday 137 = .ok (.imul, 1) := by decide +kernel
theorem dX8_friday_138 : decode cX8_friday 138 = .ok (.iload 6, 2) := by decide +kernel
theorem dX8_friday_140 : decode cX8_friday 140 = .ok (.aload_n 0, 1) := by decide +kernel
theorem dX8_friday_141 : decode cX8_friday 141 = .ok (.getfield 82, 3) := by decide +kernel
theorem dX8_friday_144 : decode cX8_friday 144 = .ok (.irem, 1) := by decide +kernel
theorem dX8_friday_145 : decode cX8_friday 145 = .ok (.iadd, 1) := by decide +kernel
theorem dX8_friday_146 : decode cX8_friday 146 = .ok (.iastore, 1) := by decide +kernel
theorem dX8_friday_147 : decode cX8_friday 147 = .ok (.iload_n 3, 1) := by decide +kernel
theorem dX8_friday_148 : decode cX8_friday 148 = .ok (.aload_n 0, 1) := by decide +kernel
theorem dX8_friday_149 : decode cX8_friday 149 = .ok (.invokevirtual 205, 3) := by decide +kernel
theorem dX8_friday_152 : decode cX8_friday 152 = .ok (.idiv, 1) := by decide +kernel
theorem dX8_friday_153 : decode cX8_friday 153 = .ok (.istore_n 3, 1) := by decide +kernel
theorem dX8_friday_154 : decode cX8_friday 154 = .ok (.iinc 5 (-1), 3) := by decide +kernel
theorem dX8_friday_157 : decode cX8_friday 157 = .ok (.goto (-48), 3) := by decide +kernel
theorem dX8_friday_160 : decode cX8_friday 160 = .ok (.iload_n 2, 1) := by decide +kernel
theorem dX8_friday_161 : decode cX8_friday 161 = .ok (.iconst (-1), 1) := by decide +kernel
theorem dX8_friday_162 : decode cX8_friday 162 = .ok (.if_icmp .ne 8, 3) := by decide +kernel
theorem dX8_friday_165 : decode cX8_friday 165 = .ok (.iload 4, 2) := by decide +kernel
theorem dX8_friday_167 : decode cX8_friday 167 = .ok (.goto 9, 3) := by decide +kernel
theorem dX8_friday_170 : decode cX8_friday 170 = .ok (.aload_n 0, 1) := by decide +kernel
theorem dX8_friday_171 : decode cX8_friday 171 = .ok (.getfield 64, 3) := by decide +kernel
theorem dX8_friday_174 : decode cX8_friday 174 = .ok (.iload_n 2, 1) := by decide +kernel
theorem dX8_friday_175 : decode cX8_friday 175 = .ok (.iaload, 1) := by decide +kernel
theorem dX8_friday_176 : decode cX8_friday 176 = .ok (.ireturn, 1) := by decide +kernel
theorem dX8_mostNow_0 : decode cX8_mostNow 0 = .ok (.iconst (-1), 1) := by decide +kernel
theorem dX8_mostNow_1 : decode cX8_mostNow 1 = .ok (.istore_n 1, 1) := by decide +kernel
theorem dX8_mostNow_2 : decode cX8_mostNow 2 = .ok (.iconst (-1), 1) := by decide +kernel
theorem dX8_mostNow_3 : decode cX8_mostNow 3 = .ok (.istore_n 2, 1) := by decide +kernel
theorem dX8_mostNow_4 : decode cX8_mostNow 4 = .ok (.iconst 0, 1) := by decide +kernel
theorem dX8_mostNow_5 : decode cX8_mostNow 5 = .ok (.istore_n 3, 1) := by decide +kernel
theorem dX8_mostNow_6 : decode cX8_mostNow 6 = .ok (.iload_n 3, 1) := by decide +kernel
theorem dX8_mostNow_7 : decode cX8_mostNow 7 = .ok (.aload_n 0, 1) := by decide +kernel
theorem dX8_mostNow_8 : decode cX8_mostNow 8 = .ok (.invokevirtual 205, 3) := by decide +kernel
theorem dX8_mostNow_11 : decode cX8_mostNow 11 = .ok (.if_icmp .ge 52, 3) := by decide +kernel
theorem dX8_mostNow_14 : decode cX8_mostNow 14 = .ok (.aload_n 0, 1) := by decide +kernel
theorem dX8_mostNow_15 : decode cX8_mostNow 15 = .ok (.iload_n 3, 1) := by decide +kernel
theorem dX8_mostNow_16 : decode cX8_mostNow 16 = .ok (.aload_n 0, 1) := by decide +kernel
theorem dX8_mostNow_17 : decode cX8_mostNow 17 = .ok (.getfield 82, 3) := by decide +kernel
theorem dX8_mostNow_20 : decode cX8_mostNow 20 = .ok (.idiv, 1) := by decide +kernel
theorem dX8_mostNow_21 : decode cX8_mostNow 21 = .ok (.iload_n 3, 1) := by decide +kernel
theorem dX8_mostNow_22 : decode cX8_mostNow 22 = .ok (.aload_n 0, 1) := by decide +kernel
theorem dX8_mostNow_23 : decode cX8_mostNow 23 = .ok (.getfield 82, 3) := by decide +kernel
theorem dX8_mostNow_26 : decode cX8_mostNow 26 = .ok (.irem, 1) := by decide +kernel
theorem dX8_mostNow_27 : decode cX8_mostNow 27 = .ok (.invokevirtual 190, 3) := by decide +kernel
theorem dX8_mostNow_30 : decode cX8_mostNow 30 = .ok (.istore 4, 2) := by decide +kernel
theorem dX8_mostNow_32 : decode cX8_mostNow 32 = .ok (.iload 4, 2) := by decide +kernel
theorem dX8_mostNow_34 : decode cX8_mostNow 34 = .ok (.iload_n 2, 1) := by decide +kernel
theorem dX8_mostNow_35 : decode cX8_mostNow 35 = .ok (.if_icmp .le 7, 3) := by decide +kernel
theorem dX8_mostNow_38 : decode cX8_mostNow 38 = .ok (.iload_n 3, 1) := by decide +kernel
theorem dX8_mostNow_39 : decode cX8_mostNow 39 = .ok (.goto 4, 3) := by decide +kernel
theorem dX8_mostNow_42 : decode cX8_mostNow 42 = .ok (.iload_n 1, 1) := by decide +kernel
theorem dX8_mostNow_43 : decode cX8_mostNow 43 = .ok (.istore_n 1, 1) := by decide +kernel
theorem dX8_mostNow_44 : decode cX8_mostNow 44 = .ok (.iload 4, 2) := by decide +kernel
theorem dX8_mostNow_46 : decode cX8_mostNow 46 = .ok (.iload_n 2, 1) := by decide +kernel
theorem dX8_mostNow_47 : decode cX8_mostNow 47 = .ok (.if_icmp .le 8, 3) := by decide +kernel
theorem dX8_mostNow_50 : decode cX8_mostNow 50 = .ok (.iload 4, 2) := by decide +kernel
theorem dX8_mostNow_52 : decode cX8_mostNow 52 = .ok (.goto 4, 3) := by decide +kernel
theorem dX8_mostNow_55 : decode cX8_mostNow 55 = .ok (.iload_n 2, 1) := by decide +kernel
theorem dX8_mostNow_56 : decode cX8_mostNow 56 = .ok (.istore_n 2, 1) := by decide +kernel
theorem dX8_mostNow_57 : decode cX8_mostNow 57 = .ok (.iinc 3 1, 3) := by decide +kernel
theorem dX8_mostNow_60 : decode cX8_mostNow 60 = .ok (.goto (-54), 3) := by decide +kernel
theorem dX8_mostNow_63 : decode cX8_mostNow 63 = .ok (.iload_n 1, 1) := by decide +kernel
theorem dX8_mostNow_64 : decode cX8_mostNow 64 = .ok (.ireturn, 1) := by decide +kernel
theorem dX8_greedy_0 : decode cX8_greedy 0 = .ok (.iload_n 1, 1) := by decide +kernel
theorem dX8_greedy_1 : decode cX8_greedy 1 = .ok (.iconst 1, 1) := by decide +kernel
theorem dX8_greedy_2 : decode cX8_greedy 2 = .ok (.bipush 20, 2) := by decide +kernel
theorem dX8_greedy_4 : decode cX8_greedy 4 = .ok (.invokestatic 78, 3) := by decide +kernel
theorem dX8_greedy_7 : decode cX8_greedy 7 = .ok (.ifCond .eq 12, 3) := by decide +kernel
theorem dX8_greedy_10 : decode cX8_greedy 10 = .ok (.iload_n 2, 1) := by decide +kernel
theorem dX8_greedy_11 : decode cX8_greedy 11 = .ok (.iconst 0, 1) := by decide +kernel
theorem dX8_greedy_12 : decode cX8_greedy 12 = .ok (.iconst 1, 1) := by decide +kernel
theorem dX8_greedy_13 : decode cX8_greedy 13 = .ok (.invokestatic 78, 3) := by decide +kernel
theorem dX8_greedy_16 : decode cX8_greedy 16 = .ok (.ifCond .ne 6, 3) := by decide +kernel
theorem dX8_greedy_19 : decode cX8_greedy 19 = .ok (.bipush (-2), 2) := by decide +kernel
theorem dX8_greedy_21 : decode cX8_greedy 21 = .ok (.ireturn, 1) := by decide +kernel
theorem dX8_greedy_22 : decode cX8_greedy 22 = .ok (.aload_n 0, 1) := by decide +kernel
theorem dX8_greedy_23 : decode cX8_greedy 23 = .ok (.invokevirtual 205, 3) := by decide +kernel
theorem dX8_greedy_26 : decode cX8_greedy 26 = .ok (.ifCond .ne 13, 3) := by decide +kernel
theorem dX8_greedy_29 : decode cX8_greedy 29 = .ok (.iload_n 2, 1) := by decide +kernel
theorem dX8_greedy_30 : decode cX8_greedy 30 = .ok (.ifCond .ne 7, 3) := by decide +kernel
theorem dX8_greedy_33 : decode cX8_greedy 33 = .ok (.iconst 0, 1) := by decide +kernel
theorem dX8_greedy_34 : decode cX8_greedy 34 = .ok (.goto 4, 3) := by decide +kernel
theorem dX8_greedy_37 : decode cX8_greedy 37 = .ok (.iconst (-1), 1) := by decide +kernel
theorem dX8_greedy_38 : decode cX8_greedy 38 = .ok (.ireturn, 1) := by decide +kernel
theorem dX8_greedy_39 : decode cX8_greedy 39 = .ok (.aload_n 0, 1) := by decide +kernel
theorem dX8_greedy_40 : decode cX8_greedy 40 = .ok (.invokevirtual 220, 3) := by decide +kernel
theorem dX8_greedy_43 : decode cX8_greedy 43 = .ok (.istore_n 3, 1) := by decide +kernel
theorem dX8_greedy_44 : decode cX8_greedy 44 = .ok (.iconst 0, 1) := by decide +kernel
theorem dX8_greedy_45 : decode cX8_greedy 45 = .ok (.istore 4, 2) := by decide +kernel
theorem dX8_greedy_47 : decode cX8_greedy 47 = .ok (.iconst 0, 1) := by decide +kernel
theorem dX8_greedy_48 : decode cX8_greedy 48 = .ok (.istore 5, 2) := by decide +kernel
theorem dX8_greedy_50 : decode cX8_greedy 50 = .ok (.iload 5, 2) := by decide +kernel
theorem dX8_greedy_52 : decode cX8_greedy 52 = .ok (.iload_n 1, 1) := by decide +kernel
theorem dX8_greedy_53 : decode cX8_greedy 53 = .ok (.if_icmp .ge 22, 3) := by decide +kernel
theorem dX8_greedy_56 : decode cX8_greedy 56 = .ok (.iload 4, 2) := by decide +kernel
theorem dX8_greedy_58 : decode cX8_greedy 58 = .ok (.aload_n 0, 1) := by decide +kernel
theorem dX8_greedy_59 : decode cX8_greedy 59 = .ok (.aload_n 0, 1) := by decide +kernel
theorem dX8_greedy_60 : decode cX8_greedy 60 = .ok (.invokevirtual 220, 3) := by decide +kernel
theorem dX8_greedy_63 : decode cX8_greedy 63 = .ok (.invokevirtual 211, 3) := by decide +kernel
theorem dX8_greedy_66 : decode cX8_greedy 66 = .ok (.iadd, 1) := by decide +kernel
theorem dX8_greedy_67 : decode cX8_greedy 67 = .ok (.istore 4, 2) := by decide +kernel
theorem dX8_greedy_69 : decode cX8_greedy 69 = .ok (.iinc 5 1, 3) := by decide +kernel
theorem dX8_greedy_72 : decode cX8_greedy 72 = .ok (.goto (-22), 3) := by decide +kernel
theorem dX8_greedy_75 : decode cX8_greedy 75 = .ok (.aload_n 0, 1) := by decide +kernel
theorem dX8_greedy_76 : decode cX8_greedy 76 = .ok (.invokevirtual 214, 3) := by decide +kernel
theorem dX8_greedy_79 : decode cX8_greedy 79 = .ok (.iload_n 2, 1) := by decide +kernel
theorem dX8_greedy_80 : decode cX8_greedy 80 = .ok (.ifCond .ne 8, 3) := by decide +kernel
theorem dX8_greedy_83 : decode cX8_greedy 83 = .ok (.iload 4, 2) := by decide +kernel
theorem dX8_greedy_85 : decode cX8_greedy 85 = .ok (.goto 19, 3) := by decide +kernel
theorem dX8_greedy_88 : decode cX8_greedy 88 = .ok (.bipush 10, 2) := by decide +kernel
theorem dX8_greedy_90 : decode cX8_greedy 90 = .ok (.iload_n 3, 1) := by decide +kernel
theorem dX8_greedy_91 : decode cX8_greedy 91 = .ok (.aload_n 0, 1) := by decide +kernel
theorem dX8_greedy_92 : decode cX8_greedy 92 = .ok (.getfield 82, 3) := by decide +kernel
theorem dX8_greedy_95 : decode cX8_greedy 95 = .ok (.idiv, 1) := by decide +kernel
theorem dX8_greedy_96 : decode cX8_greedy 96 = .ok (.imul, 1) := by decide +kernel
theorem dX8_greedy_97 : decode cX8_greedy 97 = .ok (.iload_n 3, 1) := by decide +kernel
theorem dX8_greedy_98 : decode cX8_greedy 98 = .ok (.aload_n 0, 1) := by decide +kernel
theorem dX8_greedy_99 : decode cX8_greedy 99 = .ok (.getfield 82, 3) := by decide +kernel
theorem dX8_greedy_102 : decode cX8_greedy 102 = .ok (.irem, 1) := by decide +kernel
theorem dX8_greedy_103 : decode cX8_greedy 103 = .ok (.iadd, 1) := by decide +kernel
theorem dX8_greedy_104 : decode cX8_greedy 104 = .ok (.ireturn, 1) := by decide +kernel
theorem dX8_mine_0 : decode cX8_mine 0 = .ok (.aload_n 0, 1) := by decide +kernel
theorem dX8_mine_1 : decode cX8_mine 1 = .ok (.iload_n 1, 1) := by decide +kernel
theorem dX8_mine_2 : decode cX8_mine 2 = .ok (.invokevirtual 174, 3) := by decide +kernel
theorem dX8_mine_5 : decode cX8_mine 5 = .ok (.ifCond .ne 6, 3) := by decide +kernel
theorem dX8_mine_8 : decode cX8_mine 8 = .ok (.bipush (-5), 2) := by decide +kernel
theorem dX8_mine_10 : decode cX8_mine 10 = .ok (.ireturn, 1) := by decide +kernel
theorem dX8_mine_11 : decode cX8_mine 11 = .ok (.aload_n 0, 1) := by decide +kernel
theorem dX8_mine_12 : decode cX8_mine 12 = .ok (.iload_n 2, 1) := by decide +kernel
theorem dX8_mine_13 : decode cX8_mine 13 = .ok (.invokevirtual 167, 3) := by decide +kernel
theorem dX8_mine_16 : decode cX8_mine 16 = .ok (.ifCond .ne 6, 3) := by decide +kernel
theorem dX8_mine_19 : decode cX8_mine 19 = .ok (.bipush (-6), 2) := by decide +kernel
